/-! answers, as relations; sets as the steps left them -/
def woS (F : Int → Bool) (tn tz : Int → Int) (n : Int) : Nat → Int → Bool
  | 0 => F
  | j + 1 => if tn (j : Int) = n then (fun k => if k = tz (j : Int) + 32 then false else woS F tn tz n j k) else woS F tn tz n j
theorem woS_c {F : Int → Bool} {tn tz tn' tz' : Int → Int} {n : Int} : ∀ j : Nat, (∀ i : Nat, i < j → tn i = tn' i ∧ tz i = tz' i) → woS F tn tz n j = woS F tn' tz' n j
  | 0, _ => rfl
  | j + 1, h => by
    have ih := woS_c (F := F) (n := n) j (fun i hi => h i (by omega))
    have h1 := h j (by omega)
    simp only [woS]
    rw [ih, h1.1, h1.2]
def WT (g : Cfg) (t : TT) : Prop := 0 ≤ t_c t ∧ (∀ n, 0 ≤ n → n < g_n g → t_s t n = woS (g_i g n) (t_n t) (t_z t) n (t_c t).toNat) ∧ ∀ i : Nat, (i : Int) < t_c t → (∀ o, 0 ≤ o → o < g_n g → ¬ emp (woS (g_i g o) (t_n t) (t_z t) o i)) ∧ 0 ≤ t_p t i ∧ t_p t i < 2 ^ (2 * g_n g).toNat
theorem reaS_b {g : Cfg} {r : Nat} {n z : Int} {s : Int → Int → Bool} (h : 0 ≤ g_n g) : 0 ≤ reaS g r n z s ∧ reaS g r n z s < 2 ^ (2 * g_n g).toNat := by
  obtain ⟨c, c0, c1, c2⟩ := elN_b (g := g) (r := r) (n := n) (z := z) (cl := lS s) (ch := hS s) (fl := lS (g_i g)) (fh := hS (g_i g)) (t := (lS s, hS s, 0)) rfl (T := (2 * g_n g).toNat) (by omega) (2 * g_n g).toNat (Nat.le_refl _)
  rw [Nat.sub_self] at c1 c2
  unfold reaS
  rw [c1]
  omega
theorem WT_tk {g : Cfg} {r : Nat} {n z : Int} {t : TT} (hg : 0 ≤ g_n g) (hn : 0 ≤ n ∧ n < g_n g) (h : WT g t) (hne : ∀ x, 0 ≤ x → x < g_n g → x ≠ n → ¬ emp (t_s t x)) (hz : -32 ≤ z ∧ z ≤ 31) : WT g (tkS g r n z t) := by
  unfold tkS
  split
  · rename_i hc
    obtain ⟨h0, h1, h2⟩ := h
    have hcast : ((t_c t).toNat : Int) = t_c t := by omega
    have key : ∀ (o : Int) (j : Nat), (j : Int) ≤ t_c t → woS (g_i g o) (up (t_n t) (t_c t) n) (up (t_z t) (t_c t) z) o j = woS (g_i g o) (t_n t) (t_z t) o j := by
      intro o j hj
      apply woS_c
      intro i hi
      rw [up_n (by omega), up_n (by omega)]
      exact ⟨rfl, rfl⟩
    refine ⟨by show 0 ≤ t_c t + 1; omega, fun x q1 q2 => ?_, fun i hi => ?_⟩
    · show cS (t_s t) n (z + 32) x = woS (g_i g x) (up (t_n t) (t_c t) n) (up (t_z t) (t_c t) z) x (t_c t + 1).toNat
      rw [show (t_c t + 1).toNat = (t_c t).toNat + 1 by omega]
      simp only [woS]
      rw [key x _ (by omega), ← h1 x q1 q2, hcast, up_s, up_s]
      by_cases e : n = x
      · subst e
        rw [if_pos rfl]
        funext k
        simp [cS]
      · rw [if_neg e, cS_o (fun q => e q.symm)]
    · have hi' : (i : Int) < t_c t + 1 := hi
      show (∀ o, 0 ≤ o → o < g_n g → ¬ emp (woS (g_i g o) (up (t_n t) (t_c t) n) (up (t_z t) (t_c t) z) o i)) ∧ 0 ≤ up (t_p t) (t_c t) (reaS g r n z (t_s t)) i ∧ up (t_p t) (t_c t) (reaS g r n z (t_s t)) i < 2 ^ (2 * g_n g).toNat
      by_cases e : (i : Int) = t_c t
      · rw [e, up_s]
        refine ⟨fun o q1 q2 => ?_, reaS_b hg⟩
        rw [key o i (by omega), show i = (t_c t).toNat by omega, ← h1 o q1 q2]
        by_cases e2 : o = n
        · subst e2
          intro q
          have := q (z + 32) (by omega) (by omega)
          rw [hc.1] at this; cases this
        · exact hne o q1 q2 e2
      · rw [up_n e]
        refine ⟨fun o q1 q2 => ?_, (h2 i (by omega)).2⟩
        rw [key o i (by omega)]
        exact (h2 i (by omega)).1 o q1 q2
  · exact h
theorem WT_sf {g : Cfg} {r : Nat} {n : Int} {t : TT} (hg : 0 ≤ g_n g) (hn : 0 ≤ n ∧ n < g_n g) (h : WT g t) (hne : ∀ x, 0 ≤ x → x < g_n g → x ≠ n → ¬ emp (t_s t x)) : ∀ j : Nat, j ≤ 64 → WT g (sfS g r n t j)
  | 0, _ => h
  | j + 1, hj => by
    have ih := WT_sf (r := r) hg hn h hne j (by omega)
    have ho := sfS_o (g := g) (r := r) (n := n) (t := t) j
    exact WT_tk hg hn ih (fun x q1 q2 q3 => by rw [ho.1 x q3]; exact hne x q1 q2 q3) (by omega)
theorem WT_x {g : Cfg} {t : TT} {x : Int} (h : WT g t) : WT g (setX t x) := h
theorem WT_si {g : Cfg} {r : Nat} {n : Int} {t : TT} (hg : 0 ≤ g_n g) (hn : 0 ≤ n ∧ n < g_n g) (h : WT g t) (hne : ∀ x, 0 ≤ x → x < g_n g → ¬ emp (t_s t x)) : WT g (siS g r n t) := by
  have q := WT_sf (r := r) hg hn h (fun x q1 q2 _ => hne x q1 q2) 64 (by omega)
  unfold siS
  generalize sfS g r n t 64 = y at *
  split
  · exact WT_x q
  · exact q
theorem WT_rw {g : Cfg} {r : Nat} {t : TT} (hg : 0 ≤ g_n g) (h : WT g t) (hne : NE g t) : ∀ j : Nat, (j : Int) ≤ g_n g → WT g (rwS g r t j)
  | 0, _ => h
  | j + 1, hj => by
    have ih := WT_rw (r := r) hg h hne j (by omega)
    have hq := rwS_ne (r := r) hne j
    simp only [rwS]
    split
    · rename_i hc
      exact WT_si hg (by omega) ih (hq hc.1)
    · exact ih
theorem WT_rd {g : Cfg} {ord : Int} {t : TT} (hg : 0 ≤ g_n g) (h : WT g t) (hne : NE g t) : ∀ j : Nat, WT g (rdS g ord t j)
  | 0 => h
  | j + 1 => by
    have ih := WT_rd (ord := ord) hg h hne j
    have hq := rdS_ne (ord := ord) hne j
    simp only [rdS]
    split
    · exact WT_rw hg ih hq _ (by omega)
    · exact ih
theorem WT_rn {g : Cfg} {ord : Int} (hg : 0 ≤ g_n g) : ∀ (m : Nat) (d : Int) (t : TT), WT g t → NE g t → WT g (rnS g ord m d t).2 ∧ NE g (rnS g ord m d t).2
  | 0, d, t, h, hne => ⟨h, hne⟩
  | m + 1, d, t, h, hne => by
    have h1 : WT g (onS g ord t) := WT_rd hg (t := setD t (t_d t + 1)) h hne _
    have h2 : NE g (onS g ord t) := rdS_ne (t := setD t (t_d t + 1)) hne _
    simp only [rnS]
    split
    · split
      · exact ⟨h1, h2⟩
      · exact WT_rn hg m _ _ h1 h2
    · exact ⟨h, hne⟩
/-- begun anew -/
def anT (g : Cfg) (t : TT) : TT := (fun n k => if 0 ≤ n ∧ n < 8 then g_i g n k else t_s t n k, 0, t_r t, t_n t, t_z t, t_o t, t_p t, -1000, 0)
theorem WT_an {g : Cfg} {t : TT} (h8 : g_n g ≤ 8) : WT g (anT g t) := by
  refine ⟨Int.le_refl _, fun n q1 q2 => ?_, fun i hi => ?_⟩
  · show (fun k => if 0 ≤ n ∧ n < 8 then g_i g n k else t_s t n k) = g_i g n
    funext k
    rw [if_pos (by omega)]
  · have : (i : Int) < 0 := hi
    omega
def isNm (g : Cfg) (n : Int) : Prop := 0 ≤ n ∧ n < g_n g
def isSt (t : TT) (i : Int) : Prop := 0 ≤ i ∧ i < t_c t
def A_has (g : Cfg) (t : TT) (n z r : Int) : Prop := (¬ isNm g n ∧ r = -1001) ∨ (isNm g n ∧ bz r ((-32 ≤ z ∧ z ≤ 31) ∧ t_s t n (z + 32) = true))
def A_end (g : Cfg) (t : TT) (n mb r : Int) : Prop := (¬ isNm g n ∧ r = -1001) ∨ (isNm g n ∧ r = if mb = 0 then SL (t_s t n) else SM (t_s t n))
def A_size (g : Cfg) (t : TT) (n r : Int) : Prop := (¬ isNm g n ∧ r = -1001) ∨ (isNm g n ∧ r = sm (ind (t_s t n)) 64)
def A_step (t : TT) (i w r : Int) : Prop := (¬ (isSt t i ∧ 0 ≤ w ∧ w ≤ 3) ∧ r = -1001) ∨ (isSt t i ∧ ((w = 0 ∧ r = t_r t i) ∨ (w = 1 ∧ r = t_n t i) ∨ (w = 2 ∧ r = t_z t i) ∨ (w = 3 ∧ r = t_o t i)))
def A_reason (t : TT) (i r : Int) : Prop := (¬ isSt t i ∧ r = -1001) ∨ (isSt t i ∧ r = sm (ind (pb (t_p t i))) 16)
def isPt (t : TT) (i k : Int) : Prop := isSt t i ∧ 0 ≤ k ∧ k < sm (ind (pb (t_p t i))) 16
def A_part (t : TT) (i k r : Int) : Prop := (¬ isPt t i k ∧ r = -1001) ∨ (isPt t i k ∧ Kth (pb (t_p t i)) k r)
def A_told (g : Cfg) (t : TT) (i k r : Int) : Prop := (¬ isPt t i k ∧ r = -1001) ∨ (isPt t i k ∧ ∃ q, Kth (pb (t_p t i)) k q ∧ r = if q % 2 = 1 then SM (woS (g_i g (q / 2)) (t_n t) (t_z t) (q / 2) i.toNat) else SL (woS (g_i g (q / 2)) (t_n t) (t_z t) (q / 2) i.toNat))
theorem sm_lt {g : Int → Int} (h : ∀ x, 0 ≤ g x) {a b : Nat} (hab : a ≤ b) : sm g a ≤ sm g b := by
  induction b with
  | zero => rw [show a = 0 by omega]; exact Int.le_refl _
  | succ b ih =>
    by_cases e : a = b + 1
    · rw [e]; exact Int.le_refl _
    · have := ih (by omega)
      have := h b
      simp only [sm]
      omega
theorem ind_nn {P : Int → Bool} (x : Int) : 0 ≤ ind P x := by unfold ind; split <;> omega
theorem Kth_u {P : Int → Bool} {k a b : Int} (h1 : Kth P k a) (h2 : Kth P k b) : a = b := by
  obtain ⟨s, s1, s2, s3, s4⟩ := h1
  obtain ⟨t, t1, t2, t3, t4⟩ := h2
  rw [s2, t2]
  congr 1
  apply Nat.le_antisymm
  · apply Nat.not_lt.mp
    intro q
    have e := sm_lt (g := ind P) ind_nn (show t + 1 ≤ s by omega)
    simp only [sm] at e
    rw [t4, s4] at e
    unfold ind at e
    rw [if_pos t3] at e
    omega
  · apply Nat.not_lt.mp
    intro q
    have e := sm_lt (g := ind P) ind_nn (show s + 1 ≤ t by omega)
    simp only [sm] at e
    rw [t4, s4] at e
    unfold ind at e
    rw [if_pos s3] at e
    omega
/-! the class begins anew -/
def bA (v : Mem) : Mem := wI (wI (wI (cpI (cpI (cpL v 2 3 8) 5 8 8) 6 9 8) 12 0 0) 18 0 (-1000)) 18 1 0
def KR (v : Mem) : Prop := (∀ x, 0 ≤ v.1 13 x ∧ v.1 13 x < 12) ∧ (∀ x, 0 ≤ v.1 14 x ∧ v.1 14 x < 8) ∧ (∀ x, -32 ≤ v.1 15 x ∧ v.1 15 x ≤ 31) ∧ (∀ x, 0 ≤ v.1 17 x ∧ v.1 17 x < 65536)
theorem bA_o {v : Mem} {i : Nat} (h : i ≠ 8) (h1 : i ≠ 9) (h2 : i ≠ 12) (h3 : i ≠ 18) : (bA v).1 i = v.1 i := by
  unfold bA
  rw [wI_c h3, wI_c h3, wI_c h2]
  funext b
  simp [cpI, cpL, h, h1]
theorem bA_2 {v : Mem} {i : Nat} (h : i ≠ 3) : (bA v).2 i = v.2 i := by
  funext b
  show (cpL v 2 3 8).2 i b = _
  simp [cpL, h]
theorem bA_8 {v : Mem} {x : Int} : (bA v).1 8 x = if 0 ≤ x ∧ x < 8 then v.1 5 x else v.1 8 x := by
  unfold bA
  rw [wI_c (by decide), wI_c (by decide), wI_c (by decide)]
  simp [cpI, cpL]
theorem bA_9 {v : Mem} {x : Int} : (bA v).1 9 x = if 0 ≤ x ∧ x < 8 then v.1 6 x else v.1 9 x := by
  unfold bA
  rw [wI_c (by decide), wI_c (by decide), wI_c (by decide)]
  simp [cpI, cpL]
theorem bA_Fr {v : Mem} : Fr v (bA v) := ⟨fun i hi => bA_o (by omega) (by omega) (by omega) (by omega), fun i hi => bA_2 hi⟩
theorem bA_t {v : Mem} : tC (bA v) = anT (gC v) (tC v) := by
  have e12 : (bA v).1 12 0 = 0 := by unfold bA; rw [wI_c (by decide), wI_c (by decide), wI_s]
  have e180 : (bA v).1 18 0 = -1000 := by unfold bA; rw [wI_n (by decide), wI_s]
  have e181 : (bA v).1 18 1 = 0 := by unfold bA; rw [wI_s]
  unfold tC anT
  rw [e12, e180, e181, bA_o (by decide) (by decide) (by decide) (by decide), bA_o (by decide) (by decide) (by decide) (by decide), bA_o (by decide) (by decide) (by decide) (by decide), bA_o (by decide) (by decide) (by decide) (by decide), bA_o (by decide) (by decide) (by decide) (by decide)]
  have es : (fun (n k : Int) => hbZ ((bA v).2 3 n) k) = fun n k => if 0 ≤ n ∧ n < 8 then hbZ (v.2 2 n) k else hbZ (v.2 3 n) k := by
    funext n k
    show hbZ ((cpL v 2 3 8).2 3 n) k = _
    simp only [cpL]
    by_cases h : 0 ≤ n ∧ n < 8
    · simp [h]
    · simp [h]
  rw [es]
  rfl
theorem tot_le (s : Int → Int → Bool) : tot s ≤ 512 := by
  have h := sm_b (g := fun n => sm (fun k => if s n k = true then 1 else 0) 64) (B := 64) (fun n => by
    have := sm_b (g := fun k => if s n k = true then (1 : Int) else 0) (B := 1) (fun k => by split <;> omega) 64
    omega) 8
  unfold tot
  omega
theorem bA_ok {v : Mem} (hI : IC v) (h7 : SpOk v 7) (h19 : SpOk v 19) (hK : KR v) : OK3 (bA v) := by
  have hg : gC (bA v) = gC v := bA_Fr.g
  have e1 : (bA v).1 1 = v.1 1 := bA_o (by decide) (by decide) (by decide) (by decide)
  have hs : ∀ n, 0 ≤ n → n < 8 → t_s (tC (bA v)) n = g_i (gC v) n := by
    intro n q1 q2
    rw [bA_t]
    show (fun k => if 0 ≤ n ∧ n < 8 then g_i (gC v) n k else t_s (tC v) n k) = _
    funext k
    rw [if_pos ⟨q1, q2⟩]
  obtain ⟨i1, i2, i3, i4, i5, i6, i7⟩ := id hI
  refine ⟨bA_Fr.ic hI, ⟨?_, ?_, ?_, ?_⟩, ⟨?_, ?_, ?_, ?_, ?_⟩, ?_⟩
  · intro x
    show -32 ≤ (bA v).1 8 x ∧ (bA v).1 8 x ≤ (bA v).1 9 x ∧ (bA v).1 9 x ≤ 31
    rw [bA_8, bA_9]
    by_cases h : 0 ≤ x ∧ x < 8
    · rw [if_pos h, if_pos h]; exact i5 x
    · rw [if_neg h, if_neg h]; exact h7 x
  · intro x
    show -32 ≤ (bA v).1 20 x ∧ (bA v).1 20 x ≤ (bA v).1 21 x ∧ (bA v).1 21 x ≤ 31
    rw [bA_o (by decide) (by decide) (by decide) (by decide), bA_o (by decide) (by decide) (by decide) (by decide)]; exact h19 x
  · intro n q1 q2 _
    rw [e1] at q2
    rw [hs n q1 (by omega), bA_8, bA_9, if_pos (by omega), if_pos (by omega)]
    exact i6 n q1 q2
  · intro n k q1 q2 q
    rw [hg]
    rw [e1] at q2
    rw [hs n q1 (by omega)] at q
    exact q
  · rw [show (bA v).1 12 0 = 0 from by unfold bA; rw [wI_c (by decide), wI_c (by decide), wI_s]]
    have := tot_le (t_s (tC (bA v)))
    omega
  · rw [bA_o (by decide) (by decide) (by decide) (by decide)]; exact hK.1
  · rw [bA_o (by decide) (by decide) (by decide) (by decide)]; exact hK.2.1
  · rw [bA_o (by decide) (by decide) (by decide) (by decide)]; exact hK.2.2.1
  · rw [bA_o (by decide) (by decide) (by decide) (by decide)]; exact hK.2.2.2
  · intro _ n q1 q2
    rw [hg] at q2
    have q2' : n < v.1 1 0 := q2
    rw [hs n q1 (by omega)]
    exact i7.1 n q1 q2'
