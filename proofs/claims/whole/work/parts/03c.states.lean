/-! ===== a state: 0 size, 1 processes, 2 program, 3 configuration, 4 steps, 5 entries, 6 right exits, 7 down exits ===== -/
def cS (S : Nat → Nat) : List Value := [.int (nI (S 0)), .int (nI (S 1)), .int (nI (S 2)), .long (lN (S 3)), .long (lN (S 4)), .long (lN (S 5)), .long (lN (S 6)), .long (lN (S 7))]
def begS (z n g : Nat) : Nat → Nat := fun k => if k = 0 then z else if k = 1 then n else if k = 2 then g else if k = 5 then n else 0
def nxC (S : Nat → Nat) (p : Nat) : Nat := stepC (S 3) p (S 0) (S 2)
/-- the answer of a step -/
def advA (S : Nat → Nat) (p : Nat) : Nat :=
  if stC (nxC S p) p = 1 then 1 else if stC (nxC S p) p = 0 ∧ spC (nxC S p) p = spC (S 3) p then 0 else if stC (nxC S p) p = 2 then 4 else if phC (S 3) p = 1 then 2 else 3
def advS (S : Nat → Nat) (p : Nat) : Nat → Nat := fun k =>
  if k = 3 then nxC S p else if k = 4 then S 4 + 2 ^ (6 * p)
  else if k = 5 then (if advA S p = 2 ∨ advA S p = 3 then S 5 + 2 ^ (6 * spC (nxC S p) p) else S 5)
  else if k = 6 then (if 2 ≤ advA S p ∧ phC (S 3) p = 1 then S 6 + 2 ^ (6 * spC (S 3) p) else S 6)
  else if k = 7 then (if 2 ≤ advA S p ∧ phC (S 3) p ≠ 1 then S 7 + 2 ^ (6 * spC (S 3) p) else S 7)
  else S k
def crsS (S : Nat → Nat) (p : Nat) : Nat → Nat := fun k => if k = 3 then sF (S 3) (8 * p) 2 3 else S k
def tot (S : Nat → Nat) : Nat := cnt (S 4) 0 + cnt (S 4) 1 + cnt (S 4) 2
def SOK (S : Nat → Nat) : Prop := (2 ≤ S 0 ∧ S 0 ≤ 4) ∧ (1 ≤ S 1 ∧ S 1 ≤ 3) ∧ S 2 ≤ 2 ∧ S 3 < 2 ^ 54 ∧ (∀ p, p < 3 → pOK (S 0) (S 3) p) ∧ (∀ p, p < 3 → cnt (S 4) p + pot (S 3) p ≤ 16) ∧
  (S 4 < 2 ^ 60 ∧ S 5 < 2 ^ 60 ∧ S 6 < 2 ^ 60 ∧ S 7 < 2 ^ 60) ∧ ∀ i, i < 10 → cnt (S 5) i ≤ 3 + tot S ∧ cnt (S 6) i ≤ tot S ∧ cnt (S 7) i ≤ tot S
theorem tot_le {S : Nat → Nat} (h : SOK S) : tot S ≤ 48 := by
  obtain ⟨-, -, -, -, -, h, -⟩ := h
  have h0 := h 0 (by decide)
  have h1 := h 1 (by decide)
  have h2 := h 2 (by decide)
  unfold tot
  omega
theorem pot_pos {k C p : Nat} (hok : pOK k C p) (hk : k ≤ 4) (hr : stC C p = 0) : 0 < pot C p := by
  have hph := phC_lt C p
  have hs : dgn (spC C p) < k := by rcases hok with ⟨a, _, _⟩ | ⟨_, a, b⟩; omega; exact b
  unfold pot
  rw [if_pos hr]
  omega
theorem cnt_0 (i : Nat) : cnt 0 i = 0 := by unfold cnt; simp
theorem gF_0 (o w : Nat) : gF 0 o w = 0 := by unfold gF; simp
theorem cnt_small {n i : Nat} (hn : n ≤ 3) : cnt n i ≤ 3 := by
  unfold cnt
  have h : n / 2 ^ (6 * i) ≤ n := Nat.div_le_self _ _
  exact Nat.le_trans (Nat.mod_le _ _) (by omega)
theorem SOK_beg {z n g : Nat} (hz : 2 ≤ z ∧ z ≤ 4) (hn : 1 ≤ n ∧ n ≤ 3) (hg : g ≤ 2) : SOK (begS z n g) := by
  refine ⟨hz, hn, hg, (by decide : (0 : Nat) < 2 ^ 54), fun p _ => ?_, fun p _ => ?_, ⟨(by decide : (0 : Nat) < 2 ^ 60), ?_, (by decide : (0 : Nat) < 2 ^ 60), (by decide : (0 : Nat) < 2 ^ 60)⟩, fun i _ => ⟨?_, ?_, ?_⟩⟩
  · have e : stC 0 p = 0 ∧ phC 0 p = 0 ∧ spC 0 p = 0 := ⟨gF_0 _ _, gF_0 _ _, gF_0 _ _⟩
    refine Or.inr ⟨by rw [show begS z n g 3 = 0 from rfl, e.1]; decide, ?_, ?_⟩
    · rw [show begS z n g 3 = 0 from rfl, e.2.2]; decide
    · rw [show begS z n g 3 = 0 from rfl, e.2.2]
      show 0 < z
      omega
  · show cnt 0 p + pot 0 p ≤ 16
    rw [cnt_0]
    unfold pot
    split <;> omega
  · show n < 2 ^ 60
    omega
  · show cnt n i ≤ _
    have := cnt_small (i := i) hn.2
    omega
  · show cnt 0 i ≤ _
    rw [cnt_0]; omega
  · show cnt 0 i ≤ _
    rw [cnt_0]; omega
theorem SOK_next {S S2 : Nat → Nat} {p : Nat} (h : SOK S) (hp : p < 3) (h0 : S2 0 = S 0) (h1 : S2 1 = S 1) (h2 : S2 2 = S 2) (h3 : S2 3 < 2 ^ 54) (hok : pOK (S 0) (S2 3) p) (hpot : pot (S2 3) p < pot (S 3) p) (hoth : ∀ q, q < 3 → q ≠ p → fl3 (S2 3) q = fl3 (S 3) q) (h4 : S2 4 = S 4 + 2 ^ (6 * p))
    (h5 : S2 5 = S 5 ∨ ∃ i, i < 10 ∧ S2 5 = S 5 + 2 ^ (6 * i)) (h6 : S2 6 = S 6 ∨ ∃ i, i < 10 ∧ S2 6 = S 6 + 2 ^ (6 * i)) (h7 : S2 7 = S 7 ∨ ∃ i, i < 10 ∧ S2 7 = S 7 + 2 ^ (6 * i)) : SOK S2 := by
  have ht := tot_le h
  obtain ⟨a0, a1, a2, a3, a4, a5, ⟨b4, b5, b6, b7⟩, a7⟩ := h
  have c4 : cnt (S 4) p < 63 := by have := a5 p hp; omega
  have e4 : ∀ q, q < 3 → q ≠ p → cnt (S2 4) q = cnt (S 4) q := fun q _ hn => by rw [h4, cnt_other c4 hn]
  have e4' : cnt (S2 4) p = cnt (S 4) p + 1 := by rw [h4, cnt_same c4]
  have et : tot S2 = tot S + 1 := by
    unfold tot
    have hp' : p = 0 ∨ p = 1 ∨ p = 2 := by omega
    rcases hp' with rfl | rfl | rfl
    · rw [e4', e4 1 (by decide) (by decide), e4 2 (by decide) (by decide)]; omega
    · rw [e4', e4 0 (by decide) (by decide), e4 2 (by decide) (by decide)]; omega
    · rw [e4', e4 0 (by decide) (by decide), e4 1 (by decide) (by decide)]; omega
  have key : ∀ k b, (∀ i, i < 10 → cnt (S k) i ≤ b + tot S) → b ≤ 3 → S k < 2 ^ 60 → (S2 k = S k ∨ ∃ i, i < 10 ∧ S2 k = S k + 2 ^ (6 * i)) → S2 k < 2 ^ 60 ∧ ∀ i, i < 10 → cnt (S2 k) i ≤ b + tot S2 := by
    intro k b hb hb3 hlt hor
    rcases hor with e | ⟨j, hj, e⟩
    · rw [e]
      exact ⟨hlt, fun i hi => by have := hb i hi; omega⟩
    · rw [e]
      have cj : cnt (S k) j < 63 := by have := hb j hj; omega
      refine ⟨cnt_bd cj hlt (by omega), fun i hi => ?_⟩
      have := hb i hi
      by_cases hij : i = j
      · subst hij
        rw [cnt_same cj]; omega
      · rw [cnt_other cj hij]; omega
  have k5 := key 5 3 (fun i hi => (a7 i hi).1) (by decide) b5 h5
  have k6 := key 6 0 (fun i hi => by have := (a7 i hi).2.1; omega) (by decide) b6 h6
  have k7 := key 7 0 (fun i hi => by have := (a7 i hi).2.2; omega) (by decide) b7 h7
  refine ⟨by rw [h0]; exact a0, by rw [h1]; exact a1, by rw [h2]; exact a2, h3, fun q hq => ?_, fun q hq => ?_, ⟨by rw [h4]; exact cnt_bd c4 b4 (by omega), k5.1, k6.1, k7.1⟩, fun i hi => ⟨k5.2 i hi, ?_, ?_⟩⟩
  · rw [h0]
    by_cases hqp : q = p
    · subst hqp; exact hok
    · exact pOK_of (hoth q hq hqp) (a4 q hq)
  · by_cases hqp : q = p
    · subst hqp
      rw [e4']
      have := a5 q hq
      omega
    · rw [e4 q hq hqp, pot_of (hoth q hq hqp)]
      exact a5 q hq
  · have := k6.2 i hi; omega
  · have := k7.2 i hi; omega
theorem advS_5 (S : Nat → Nat) (p : Nat) : advS S p 5 = if advA S p = 2 ∨ advA S p = 3 then S 5 + 2 ^ (6 * spC (nxC S p) p) else S 5 := rfl
theorem advS_6 (S : Nat → Nat) (p : Nat) : advS S p 6 = if 2 ≤ advA S p ∧ phC (S 3) p = 1 then S 6 + 2 ^ (6 * spC (S 3) p) else S 6 := rfl
theorem advS_7 (S : Nat → Nat) (p : Nat) : advS S p 7 = if 2 ≤ advA S p ∧ phC (S 3) p ≠ 1 then S 7 + 2 ^ (6 * spC (S 3) p) else S 7 := rfl
theorem SOK_adv {S : Nat → Nat} {p : Nat} (h : SOK S) (hp : p < 3) (hr : stC (S 3) p = 0) : SOK (advS S p) := by
  have a4 := h.2.2.2.2.1 p hp
  have hs := step_p (g := S 2) hp h.1.1 h.1.2 hr a4
  refine SOK_next h hp rfl rfl rfl (stepC_lt h.2.2.2.1 hp h.1.2 (pOK_sp a4)) hs.1 hs.2 (fun q hq hn => fl3_step_other hp hq hn h.1.2) rfl ?_ ?_ ?_
  · rw [advS_5]
    by_cases c : advA S p = 2 ∨ advA S p = 3
    · rw [if_pos c]; exact Or.inr ⟨_, pOK_sp hs.1, rfl⟩
    · rw [if_neg c]; exact Or.inl rfl
  · rw [advS_6]
    by_cases c : 2 ≤ advA S p ∧ phC (S 3) p = 1
    · rw [if_pos c]; exact Or.inr ⟨_, pOK_sp a4, rfl⟩
    · rw [if_neg c]; exact Or.inl rfl
  · rw [advS_7]
    by_cases c : 2 ≤ advA S p ∧ phC (S 3) p ≠ 1
    · rw [if_pos c]; exact Or.inr ⟨_, pOK_sp a4, rfl⟩
    · rw [if_neg c]; exact Or.inl rfl
theorem SOK_crs {S : Nat → Nat} {p : Nat} (h : SOK S) (hp : p < 3) (hr : stC (S 3) p = 0) : SOK (crsS S p) := by
  obtain ⟨a0, a1, a2, a3, a4, a5, a6, a7⟩ := h
  have hf := fl3_status (C := S 3) (p := p) (v := 3) (by decide)
  unfold fl3 at hf
  have e1 : stC (sF (S 3) (8 * p) 2 3) p = 3 := congrArg (fun z => z.1) hf
  have e2 : spC (sF (S 3) (8 * p) 2 3) p = spC (S 3) p := congrArg (fun z => z.2.2) hf
  refine ⟨a0, a1, a2, sF_lt (by decide) a3 (by omega), fun q hq => ?_, fun q hq => ?_, a6, a7⟩
  · show pOK (S 0) (sF (S 3) (8 * p) 2 3) q
    by_cases hqp : q = p
    · subst hqp
      rcases a4 q hq with ⟨b1, _, _⟩ | ⟨_, b2, b3⟩
      · omega
      · exact Or.inr ⟨by rw [e1]; decide, by rw [e2]; exact b2, by rw [e2]; exact b3⟩
    · exact pOK_of (fl3_other (by decide) hp hq hqp (by omega) (by omega)) (a4 q hq)
  · show cnt (S 4) q + pot (sF (S 3) (8 * p) 2 3) q ≤ 16
    by_cases hqp : q = p
    · subst hqp
      have := a5 q hq
      unfold pot
      rw [if_neg (by rw [e1]; decide)]
      omega
    · rw [pot_of (fl3_other (by decide) hp hq hqp (by omega) (by omega))]
      exact a5 q hq
/-! ===== answers that are true or false; arguments in a range ===== -/
def bN (b : Bool) : Nat := if b then 1 else 0
theorem bN_b (b : Bool) : bN b < 2 ^ 31 := by cases b <;> decide
theorem bN_0 {c : Prop} [Decidable c] : bN (decide c) = 0 ↔ ¬ c := by by_cases h : c <;> simp [bN, h]
theorem bN_1 {c : Prop} [Decidable c] : bN (decide c) ≠ 0 ↔ c := by by_cases h : c <;> simp [bN, h]
theorem bN_t {c : Prop} [Decidable c] (h : c) : bN (decide c) = 1 := by simp [bN, h]
theorem bN_f {c : Prop} [Decidable c] (h : ¬ c) : bN (decide c) = 0 := by simp [bN, h]
abbrev inR (n : Nat) (q : Int32) : Prop := ¬ q < 0 ∧ ¬ nI n ≤ q
theorem inR_j {n : Nat} {q : Int32} (hn : n < 2 ^ 31) (h : inR n q) : ∃ j, j < n ∧ q = nI j := by
  obtain ⟨j, hj, rfl⟩ := nI_of h.1
  exact ⟨j, Nat.not_le.mp (fun z => h.2 ((nI_leI hn hj).mpr z)), rfl⟩
theorem inR_nI {n j : Nat} (hn : n < 2 ^ 31) (h : j < n) : inR n (nI j) := ⟨nI_pos (by omega), fun z => by have := (nI_leI hn (by omega)).mp z; omega⟩
/-- how many processes of the first i are running -/
def runC (C : Nat) : Nat → Nat := fb_ct (fun p => decide (stC C p = 0))
theorem runC_t {C i : Nat} (h : stC C i = 0) : runC C (i + 1) = runC C i + 1 := by unfold runC; rw [fb_ct_succ]; simp [h]
theorem runC_f {C i : Nat} (h : ¬ stC C i = 0) : runC C (i + 1) = runC C i := by unfold runC; rw [fb_ct_succ]; simp [h]
theorem runC_le (C i : Nat) : runC C i ≤ i := fb_ct_le _ _
/-- steps of one process, k at most -/
def runS : Nat → (Nat → Nat) → Nat → (Nat → Nat)
  | 0, S, _ => S
  | k + 1, S, p => if stC (S 3) p = 0 then runS k (advS S p) p else S
def runN : Nat → (Nat → Nat) → Nat → Nat
  | 0, _, _ => 0
  | k + 1, S, p => if stC (S 3) p = 0 then runN k (advS S p) p + 1 else 0
theorem runN_le : ∀ (k : Nat) (S : Nat → Nat) (p : Nat), runN k S p ≤ k
  | 0, _, _ => Nat.le_refl 0
  | k + 1, S, p => by
    unfold runN
    split
    · have := runN_le k (advS S p) p; omega
    · omega
theorem SOK_run : ∀ (k : Nat) (S : Nat → Nat) (p : Nat), SOK S → p < 3 → SOK (runS k S p)
  | 0, _, _, h, _ => h
  | k + 1, S, p, h, hp => by
    unfold runS
    split
    · exact SOK_run k _ p (SOK_adv h hp (by assumption)) hp
    · exact h
theorem advS_1 (S : Nat → Nat) (p : Nat) : advS S p 1 = S 1 := rfl
theorem runS_1 : ∀ (k : Nat) (S : Nat → Nat) (p : Nat), runS k S p 1 = S 1
  | 0, _, _ => rfl
  | k + 1, S, p => by
    unfold runS
    split
    · rw [runS_1 k]; rfl
    · rfl
