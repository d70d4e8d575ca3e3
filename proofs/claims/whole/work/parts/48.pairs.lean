/-! the class's answer and the model's, call by call -/
def INV (v : Mem) : Prop := OKC v ∧ CHR v ∧ RMM (gC v) (tC v) v
def FrQ (v u : Mem) : Prop := (∀ i : Nat, ¬ (23 ≤ i ∧ i ≤ 39) → u.1 i = v.1 i) ∧ u.2 = v.2
theorem FrM.q {v u : Mem} (h : FrM v u) : FrQ v u := ⟨fun i hi => h.1 i (by omega), h.2⟩
theorem FrQ.g {v u : Mem} (h : FrQ v u) : gC u = gC v := by
  unfold gC
  rw [h.1 1 (by omega), h.1 10 (by omega)]
  have e1 : (fun (r : Nat) (j : Int) => u.1 (40 + r) j) = fun r j => v.1 (40 + r) j := by funext r; rw [h.1 (40 + r) (by omega)]
  have e2 : (fun (r : Nat) (j : Int) => u.1 (52 + r) j) = fun r j => v.1 (52 + r) j := by funext r; rw [h.1 (52 + r) (by omega)]
  rw [e1, e2, h.2]
theorem FrQ.t {v u : Mem} (h : FrQ v u) : tC u = tC v := by
  unfold tC
  rw [h.1 12 (by omega), h.1 13 (by omega), h.1 14 (by omega), h.1 15 (by omega), h.1 16 (by omega), h.1 17 (by omega), h.1 18 (by omega), h.2]
theorem FrQ.ic {v u : Mem} (h : FrQ v u) (hi : IC v) : IC u := by
  unfold IC SpOk at *
  rw [h.g, h.1 1 (by omega), h.1 10 (by omega), h.1 (4 + 1) (by omega), h.1 (4 + 2) (by omega)]
  refine ⟨hi.1, hi.2.1, fun r hr => ?_, hi.2.2.2.1, hi.2.2.2.2.1, hi.2.2.2.2.2.1, hi.2.2.2.2.2.2.1, fun r x q1 q2 => ?_⟩
  · have := hi.2.2.1 r hr
    unfold RwOk at *
    rw [h.1 (40 + r) (by omega), h.1 (52 + r) (by omega)]
    exact this
  · rw [h.1 (52 + r) (by omega)]; exact hi.2.2.2.2.2.2.2 r x q1 q2
theorem FrQ.ok {v u : Mem} (h : FrQ v u) (ho : OKC v) : OKC u := by
  obtain ⟨⟨hI, hJ, hK, hN⟩, hW, hX⟩ := ho
  refine ⟨⟨h.ic hI, ?_, ?_, ?_⟩, ?_, ?_⟩
  · unfold JC SpOk at *
    rw [h.g, h.t, h.1 1 (by omega), h.1 8 (by omega), h.1 9 (by omega), h.1 (19 + 1) (by omega), h.1 (19 + 2) (by omega)]
    exact hJ
  · unfold KC at *
    rw [h.t, h.1 12 (by omega), h.1 13 (by omega), h.1 14 (by omega), h.1 15 (by omega), h.1 17 (by omega)]
    exact hK
  · rw [h.g, h.t]; exact hN
  · rw [h.g, h.t]; exact hW
  · rw [h.g, h.t]; exact hX
theorem RMM.k {g : Cfg} {t : TT} {v u : Mem} (h : RMM g t v) (hf : ∀ i : Nat, 25 ≤ i → i ≤ 39 → u.1 i = v.1 i) : RMM g t u := by
  refine ⟨h.1.cg (by rw [hf 25 (by decide) (by decide)]) (by rw [hf 25 (by decide) (by decide)]) (fun i hi => hf i (by omega) (by omega)), ?_⟩
  have h2 := h.2
  unfold RMt B0 StM at *
  rw [hf 25 (by decide) (by decide), hf 27 (by decide) (by decide), hf 32 (by decide) (by decide), hf 33 (by decide) (by decide), hf 34 (by decide) (by decide), hf 35 (by decide) (by decide), hf 36 (by decide) (by decide), hf 37 (by decide) (by decide)]
  exact h2
theorem RMM.f8 {g : Cfg} {t : TT} {v u : Mem} (h : RMM g t v) (hf : Fr8 v u) : RMM g t u := h.k (fun i a b => hf i (by omega) b)
theorem CHR.f8 {v u : Mem} (h : CHR v) (hf : Fr8 v u) : CHR u := by
  unfold CHR at *
  rw [hf 23 (by decide) (by decide)]
  exact h
theorem INV.of {u w : Mem} {g : Cfg} {t : TT} (h1 : OKC u) (h2 : CHR u) (hg : gC u = g) (ht : tC u = t) (hR : RMM g t w) (hF : FrM u w) : INV w := by
  refine ⟨hF.q.ok h1, ?_, ?_⟩
  · unfold CHR at *
    rw [hF.1 23 (by omega)]
    exact h2
  · rw [hF.q.g, hF.q.t, hg, ht]; exact hR
theorem bz_u {P : Prop} {a b : Int} (h1 : bz a P) (h2 : bz b P) : a = b := by
  rcases h1 with ⟨e1, q1⟩ | ⟨e1, q1⟩ <;> rcases h2 with ⟨e2, q2⟩ | ⟨e2, q2⟩
  · rw [e1, e2]
  · exact absurd q1 q2
  · exact absurd q2 q1
  · rw [e1, e2]
/-! posts -/
def cpost (v : Mem) (B C : Prop) (e x : Int) (R : Int → Prop) (g' : Cfg) (r : Int) (u : Mem) : Prop := (¬ B ∧ r = -1001 ∧ u = v) ∨ (B ∧ ((C ∧ r = e ∧ u = v) ∨ (¬ C ∧ R r ∧ gC u = g' ∧ tC u = anT g' (tC v) ∧ OKC u ∧ Fr8 v u)))
def mpost (v : Mem) (t : TT) (B C : Prop) (e x : Int) (R : Int → Prop) (g' : Cfg) (q : Int) (u : Mem) : Prop := (¬ B ∧ q = -1001 ∧ u = v) ∨ (B ∧ ((C ∧ q = e ∧ u = v) ∨ (¬ C ∧ R q ∧ RMM g' (anT g' t) u ∧ FrM v u)))
theorem cp_f8 {v u : Mem} {B C : Prop} {e x r : Int} {R : Int → Prop} {g' : Cfg} (h : cpost v B C e x R g' r u) : Fr8 v u := by
  rcases h with ⟨_, _, q⟩ | ⟨_, ⟨_, _, q⟩ | ⟨_, _, _, _, _, q⟩⟩
  · rw [q]; exact fun _ _ _ => rfl
  · rw [q]; exact fun _ _ _ => rfl
  · exact q
theorem pr_cm {v u w : Mem} {B C : Prop} {e x r q : Int} {R : Int → Prop} {g' : Cfg} (hI : INV v) (hR : ∀ a b, R a → R b → a = b) (p1 : cpost v B C e x R g' r u) (p2 : mpost u (tC v) B C e x R g' q w) : r = q ∧ INV w := by
  rcases p1 with ⟨b1, e1, e2⟩ | ⟨b1, ⟨c1, e1, e2⟩ | ⟨c1, e1, hg, ht, hO, hF⟩⟩
  · rcases p2 with ⟨b2, f1, f2⟩ | ⟨b2, _⟩
    · exact ⟨e1.trans f1.symm, by rw [f2, e2]; exact hI⟩
    · exact absurd b2 b1
  · rcases p2 with ⟨b2, f1, f2⟩ | ⟨b2, ⟨c2, f1, f2⟩ | ⟨c2, _⟩⟩
    · exact absurd b1 b2
    · exact ⟨e1.trans f1.symm, by rw [f2, e2]; exact hI⟩
    · exact absurd c1 c2
  · rcases p2 with ⟨b2, f1, f2⟩ | ⟨b2, ⟨c2, f1, f2⟩ | ⟨c2, f1, hR2, hM⟩⟩
    · exact absurd b1 b2
    · exact absurd c2 c1
    · exact ⟨hR _ _ e1 f1, INV.of hO (hI.2.1.f8 hF) hg ht hR2 hM⟩
theorem run_ok {v u : Mem} {od : Int} {m : Nat} (hI : INV v) (ht : tC u = (rnS (gC v) od m 0 (tC v)).2) (hF : Fr v u) (hJ : JC u) (hK : KC u) : OKC u := by
  obtain ⟨⟨h1, h2, h3, h4⟩, hW, hX⟩ := hI.1
  have hw := WT_rn (ord := od) (by have := h1.1; exact this.1) m 0 (tC v) hW h4
  refine ⟨⟨hF.ic h1, hJ, hK, ?_⟩, ?_, ?_⟩
  · rw [hF.g, ht]; exact hw.2
  · rw [hF.g, ht]; exact hw.1
  · rw [hF.g, ht]; exact rnS_x (by have := h1.2.1; exact this.1) m 0 (tC v) hX
theorem pr_run {v u w : Mem} {B : Prop} {od r q : Int} {m : Nat} {e : Int} (hI : INV v) (p1 : (¬ B ∧ r = -1001 ∧ u = v) ∨ (B ∧ r = e ∧ tC u = (rnS (gC v) od m 0 (tC v)).2 ∧ Fr v u ∧ JC u ∧ KC u)) (p2 : (¬ B ∧ q = -1001 ∧ w = u) ∨ (B ∧ q = e ∧ RMM (gC v) (rnS (gC v) od m 0 (tC v)).2 w ∧ FrM u w)) : r = q ∧ INV w := by
  rcases p1 with ⟨b1, e1, e2⟩ | ⟨b1, e1, ht, hF, hJ, hK⟩
  · rcases p2 with ⟨b2, f1, f2⟩ | ⟨b2, _⟩
    · exact ⟨e1.trans f1.symm, by rw [f2, e2]; exact hI⟩
    · exact absurd b2 b1
  · rcases p2 with ⟨b2, f1, f2⟩ | ⟨b2, f1, hR, hM⟩
    · exact absurd b1 b2
    · exact ⟨e1.trans f1.symm, INV.of (run_ok hI ht hF hJ hK) (hI.2.1.f8 hF.fr8) hF.g ht hR hM⟩
theorem run_f8 {v u : Mem} {B : Prop} {r e : Int} {T : TT} (p1 : (¬ B ∧ r = -1001 ∧ u = v) ∨ (B ∧ r = e ∧ tC u = T ∧ Fr v u ∧ JC u ∧ KC u)) : Fr8 v u := by
  rcases p1 with ⟨_, _, q⟩ | ⟨_, _, _, q, _⟩
  · rw [q]; exact fun _ _ _ => rfl
  · exact q.fr8
theorem has_u {g : Cfg} {t : TT} {n z a b : Int} (h1 : A_has g t n z a) (h2 : A_has g t n z b) : a = b := by
  rcases h1 with ⟨q1, e1⟩ | ⟨q1, e1⟩ <;> rcases h2 with ⟨q2, e2⟩ | ⟨q2, e2⟩
  · rw [e1, e2]
  · exact absurd q2 q1
  · exact absurd q1 q2
  · exact bz_u e1 e2
theorem end_u {g : Cfg} {t : TT} {n z a b : Int} (h1 : A_end g t n z a) (h2 : A_end g t n z b) : a = b := by
  rcases h1 with ⟨q1, e1⟩ | ⟨q1, e1⟩ <;> rcases h2 with ⟨q2, e2⟩ | ⟨q2, e2⟩
  · rw [e1, e2]
  · exact absurd q2 q1
  · exact absurd q1 q2
  · rw [e1, e2]
theorem size_u {g : Cfg} {t : TT} {n a b : Int} (h1 : A_size g t n a) (h2 : A_size g t n b) : a = b := by
  rcases h1 with ⟨q1, e1⟩ | ⟨q1, e1⟩ <;> rcases h2 with ⟨q2, e2⟩ | ⟨q2, e2⟩
  · rw [e1, e2]
  · exact absurd q2 q1
  · exact absurd q1 q2
  · rw [e1, e2]
theorem step_u {t : TT} {i w a b : Int} (h1 : A_step t i w a) (h2 : A_step t i w b) : a = b := by
  rcases h1 with ⟨q1, e1⟩ | ⟨q1, e1⟩ <;> rcases h2 with ⟨q2, e2⟩ | ⟨q2, e2⟩
  · rw [e1, e2]
  · refine absurd ⟨q2, ?_⟩ q1
    rcases e2 with e | e | e | e <;> omega
  · refine absurd ⟨q1, ?_⟩ q2
    rcases e1 with e | e | e | e <;> omega
  · rcases e1 with e | e | e | e <;> rcases e2 with f | f | f | f <;> first | omega | exact e.2.trans f.2.symm
theorem reason_u {t : TT} {i a b : Int} (h1 : A_reason t i a) (h2 : A_reason t i b) : a = b := by
  rcases h1 with ⟨q1, e1⟩ | ⟨q1, e1⟩ <;> rcases h2 with ⟨q2, e2⟩ | ⟨q2, e2⟩
  · rw [e1, e2]
  · exact absurd q2 q1
  · exact absurd q1 q2
  · rw [e1, e2]
theorem part_u {t : TT} {i k a b : Int} (h1 : A_part t i k a) (h2 : A_part t i k b) : a = b := by
  rcases h1 with ⟨q1, e1⟩ | ⟨q1, e1⟩ <;> rcases h2 with ⟨q2, e2⟩ | ⟨q2, e2⟩
  · rw [e1, e2]
  · exact absurd q2 q1
  · exact absurd q1 q2
  · exact Kth_u e1 e2
theorem told_u {g : Cfg} {t : TT} {i k a b : Int} (h1 : A_told g t i k a) (h2 : A_told g t i k b) : a = b := by
  rcases h1 with ⟨q1, e1⟩ | ⟨q1, e1⟩ <;> rcases h2 with ⟨q2, e2⟩ | ⟨q2, e2⟩
  · rw [e1, e2]
  · exact absurd q2 q1
  · exact absurd q1 q2
  · obtain ⟨x, x1, x2⟩ := e1
    obtain ⟨y, y1, y2⟩ := e2
    have e := Kth_u x1 y1
    subst e
    rw [x2, y2]
theorem pr_plans {v u w : Mem} {r q a : Int} (hI : INV v) (p1 : r = a ∧ u.2 = v.2 ∧ (∀ i, i ≠ 23 → i ≠ 24 → u.1 i = v.1 i) ∧ CHR u) (p2 : q = a ∧ FrB u w) : r = q ∧ INV w := by
  obtain ⟨e1, e2, e3, e4⟩ := p1
  obtain ⟨f1, f2⟩ := p2
  have hq : FrQ v u := ⟨fun i hi => e3 i (by omega) (by omega), e2⟩
  refine ⟨e1.trans f1.symm, INV.of (hq.ok hI.1) e4 hq.g hq.t ?_ f2.m⟩
  exact (hI.2.2.k (fun i a b => e3 i (by omega) (by omega))).b f2
theorem gC_Z {v : Mem} : ∀ n k, g_i (gC v) n k = true → 0 ≤ k ∧ k < 64 := by
  intro n k h
  have h : hbZ (v.2 2 n) k = true := h
  unfold hbZ at h
  split at h
  · assumption
  · cases h
/-! the world at the start -/
def v0 : Mem := (fun i x => if 40 ≤ i then (if i < 52 then (if x = 1 ∨ x = 2 ∨ x = 3 then -1 else 0) else 0) else if i = 18 then (if x = 0 then -1000 else 0) else if i = 25 then (if x = 9 then -1000 else 0) else 0, fun _ _ => 0)
theorem v0_row {r : Nat} (hr : r < 12) (x : Int) : v0.1 (40 + r) x = if x = 1 ∨ x = 2 ∨ x = 3 then -1 else 0 := by
  show (if 40 ≤ 40 + r then (if 40 + r < 52 then (if x = 1 ∨ x = 2 ∨ x = 3 then -1 else 0) else 0) else _) = (_ : Int)
  rw [if_pos (by omega), if_pos (by omega)]
theorem v0_fac {r : Nat} (x : Int) : v0.1 (52 + r) x = 0 := by
  show (if 40 ≤ 52 + r then (if 52 + r < 52 then (if x = 1 ∨ x = 2 ∨ x = 3 then -1 else 0) else 0) else _) = (_ : Int)
  rw [if_pos (by omega), if_neg (by omega)]
theorem v0_o {i : Nat} (h : i < 40) (h1 : i ≠ 18) (h2 : i ≠ 25) (x : Int) : v0.1 i x = 0 := by
  show (if 40 ≤ i then _ else if i = 18 then _ else if i = 25 then _ else 0) = (_ : Int)
  rw [if_neg (by omega), if_neg h1, if_neg h2]
theorem bA_v0 : bA v0 = v0 := by
  apply Prod.ext
  · funext i x
    by_cases h8 : i = 8
    · subst h8
      rw [bA_8, v0_o (by decide) (by decide) (by decide), v0_o (by decide) (by decide) (by decide)]
      simp
    · by_cases h9 : i = 9
      · subst h9
        rw [bA_9, v0_o (by decide) (by decide) (by decide), v0_o (by decide) (by decide) (by decide)]
        simp
      · by_cases h12 : i = 12
        · subst h12
          unfold bA
          rw [wI_c (by decide), wI_c (by decide)]
          by_cases hx : x = 0
          · subst hx; rw [wI_s]; rfl
          · rw [wI_n hx]
            simp [cpI, cpL]
        · by_cases h18 : i = 18
          · subst h18
            unfold bA
            by_cases hx : x = 1
            · subst hx; rw [wI_s]; rfl
            · rw [wI_n hx]
              by_cases hx0 : x = 0
              · subst hx0; rw [wI_s]; rfl
              · rw [wI_n hx0, wI_c (by decide)]
                simp [cpI, cpL]
          · rw [bA_o h8 h9 h12 h18]
  · funext i x
    by_cases h3 : i = 3
    · subst h3
      show (cpL v0 2 3 8).2 3 x = v0.2 3 x
      simp [cpL, v0]
    · rw [bA_2 h3]
theorem IC_v0 : IC v0 := by
  refine ⟨⟨by decide, by decide⟩, ⟨by decide, by decide⟩, fun r hr => ?_, fun r x q => ?_, ?_, fun n q1 q2 => ?_, fun n q1 q2 => ?_, fun r x q1 q2 => v0_fac x⟩
  · unfold RwOk
    rw [v0_row hr, v0_row hr, v0_row hr, v0_row hr, v0_row hr]
    have hf : ∀ x, v0.1 (52 + r) x = 0 := fun x => v0_fac x
    simp [hf]
  · have q : (r : Int) < 0 := q
    omega
  · intro x
    rw [v0_o (i := 4 + 1) (by decide) (by decide) (by decide), v0_o (i := 4 + 2) (by decide) (by decide) (by decide)]
    omega
  · have q2 : n < 0 := q2
    omega
  · have q2 : n < 0 := q2
    omega
theorem OKC_v0 : OKC v0 := by
  have h := (bA_all (v := v0) (w := v0) (g := gC v0) rfl IC_v0 ?_ ?_ ?_ rfl).2.2
  · rwa [bA_v0] at h
  · intro x
    rw [v0_o (i := 7 + 1) (by decide) (by decide) (by decide), v0_o (i := 7 + 2) (by decide) (by decide) (by decide)]
    omega
  · intro x
    rw [v0_o (i := 19 + 1) (by decide) (by decide) (by decide), v0_o (i := 19 + 2) (by decide) (by decide) (by decide)]
    omega
  · refine ⟨fun x => ?_, fun x => ?_, fun x => ?_, fun x => ?_⟩ <;> rw [v0_o (by decide) (by decide) (by decide)] <;> omega
theorem hbZ_z (k : Int) : hbZ (0 : Int64) k = false := by
  unfold hbZ
  split
  · exact hb_0 rfl k
  · rfl
theorem INV_v0 : INV v0 := by
  refine ⟨OKC_v0, fun x => ?_, ⟨rfl, rfl, fun n k n0 n8 k0 k64 => ?_, fun r hr => ?_⟩, fun n k n0 n8 k0 k64 => ?_, rfl, rfl, rfl, fun i q1 q2 => ?_⟩
  · rw [v0_o (by decide) (by decide) (by decide)]; omega
  · rw [v0_o (by decide) (by decide) (by decide)]
    exact bz0 (by show ¬ hbZ (0 : Int64) k = true; rw [hbZ_z]; simp)
  · have hr : (r : Int) < 0 := hr
    omega
  · rw [v0_o (by decide) (by decide) (by decide)]
    exact bz0 (by show ¬ hbZ (0 : Int64) k = true; rw [hbZ_z]; simp)
  · have q2 : i < 0 := q2
    omega
