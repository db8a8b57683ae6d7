/-! ===== what a step does to the fields of the processes; valid states ===== -/
theorem gF_sF_part {n off w v o2 w2 : Nat} (hv : v < 2 ^ w) (h : o2 + w2 ≤ w) : gF (sF n off w v) (off + o2) w2 = gF v o2 w2 := by
  rw [← gF_gF h, gF_sF_same hv]
/-- the three fields of a process -/
def fl3 (C p : Nat) : Nat × Nat × Nat := (stC C p, phC C p, spC C p)
theorem fl3_reg {C p o w v : Nat} (hv : v < 2 ^ w) (hp : p < 3) (ho : 24 ≤ o) : fl3 (sF C o w v) p = fl3 C p := by
  unfold fl3 stC phC spC
  rw [gF_sF_other hv (by omega), gF_sF_other hv (by omega), gF_sF_other hv (by omega)]
theorem fl3_other {C p q o w v : Nat} (hv : v < 2 ^ w) (hp : p < 3) (hq : q < 3) (hn : q ≠ p) (ho : 8 * p ≤ o) (hw : o + w ≤ 8 * p + 8) : fl3 (sF C o w v) q = fl3 C q := by
  have h : ∀ o2 w2, 8 * q ≤ o2 → o2 + w2 ≤ 8 * q + 8 → (o2 + w2 ≤ o ∨ o + w ≤ o2) := by
    intro o2 w2 a b
    have : q < p ∨ p < q := by omega
    omega
  unfold fl3 stC phC spC
  rw [gF_sF_other hv (h _ _ (by omega) (by omega)), gF_sF_other hv (h _ _ (by omega) (by omega)), gF_sF_other hv (h _ _ (by omega) (by omega))]
theorem fl3_phase {C p v : Nat} (hv : v < 2 ^ 2) : fl3 (sF C (8 * p + 2) 2 v) p = (stC C p, v, spC C p) := by
  unfold fl3 stC phC spC
  rw [gF_sF_other hv (by omega), gF_sF_same hv, gF_sF_other hv (by omega)]
theorem fl3_status {C p v : Nat} (hv : v < 2 ^ 2) : fl3 (sF C (8 * p) 2 v) p = (v, phC C p, spC C p) := by
  unfold fl3 stC phC spC
  rw [gF_sF_same hv, gF_sF_other hv (by omega), gF_sF_other hv (by omega)]
theorem fl3_byte {C p b : Nat} (hb : b < 2 ^ 8) : fl3 (sF C (8 * p) 8 b) p = (gF b 0 2, gF b 2 2, gF b 4 4) := by
  unfold fl3 stC phC spC
  have h0 : gF (sF C (8 * p) 8 b) (8 * p) 2 = gF b 0 2 := gF_sF_part (o2 := 0) hb (by decide)
  rw [h0, gF_sF_part hb (by decide), gF_sF_part hb (by decide)]
theorem dgn_mv : ∀ sp, sp < 6 → ∀ d, d < 2 → dgn (sp + (dgn sp + 1) + d) = dgn sp + 1 ∧ sp + (dgn sp + 1) + d < 10 ∧ sp + (dgn sp + 1) + d ≠ sp := by decide +kernel
theorem fl3_mov {C p k d : Nat} (hd : d < 2) (hk : k ≤ 4) : fl3 (movC C p k d) p = if k ≤ dgn (spC C p) + 1 then (2, 0, 0) else (0, 0, spC C p + (dgn (spC C p) + 1) + d) := by
  unfold movC
  split
  · rw [fl3_byte (by decide)]; rfl
  · have h := (dgn_mv (spC C p) (dgn_6 (by omega)) d hd).2.1
    rw [fl3_byte (by omega)]
    generalize spC C p + (dgn (spC C p) + 1) + d = x at *
    simp only [gF]
    have e1 : x * 16 / 2 ^ 0 % 2 ^ 2 = 0 := by omega
    have e2 : x * 16 / 2 ^ 2 % 2 ^ 2 = 0 := by omega
    have e3 : x * 16 / 2 ^ 4 % 2 ^ 4 = x := by omega
    rw [e1, e2, e3]
/-- the fields of the process that steps -/
def stepF (C p k g : Nat) : Nat × Nat × Nat :=
  if phC C p = 0 then (stC C p, if g = 1 then 2 else 1, spC C p)
  else if phC C p = 1 then (if doC C (spC C p) = 1 then (if k ≤ dgn (spC C p) + 1 then (2, 0, 0) else (0, 0, spC C p + (dgn (spC C p) + 1) + 0)) else (stC C p, 2, spC C p))
  else if phC C p = (if g = 2 then 2 else 3) then
    (if owC C (spC C p) = p + 1 then (if phC C p = 2 then (stC C p, 3, spC C p) else (1, phC C p, spC C p)) else (if k ≤ dgn (spC C p) + 1 then (2, 0, 0) else (0, 0, spC C p + (dgn (spC C p) + 1) + 1)))
  else (if phC C p = 2 then (stC C p, 3, spC C p) else (1, phC C p, spC C p))
theorem fl3_eq {C C2 p : Nat} (h : fl3 C2 p = fl3 C p) : stC C2 p = stC C p ∧ phC C2 p = phC C p ∧ spC C2 p = spC C p := by
  unfold fl3 at h
  exact ⟨congrArg (fun z => z.1) h, congrArg (fun z => z.2.1) h, congrArg (fun z => z.2.2) h⟩
theorem fl3_step {C p k g : Nat} (hp : p < 3) (hk : k ≤ 4) : fl3 (stepC C p k g) p = stepF C p k g := by
  have o : ∀ t v w, v < 2 ^ w → fl3 (sF C (24 + t) w v) p = fl3 C p := fun t v w hv => fl3_reg hv hp (by omega)
  have hO := fl3_eq (o (3 * spC C p) (p + 1) 2 (by omega))
  have hD := fl3_eq (o (3 * spC C p + 2) 1 1 (by decide))
  rw [← Nat.add_assoc] at hD
  unfold stepC stepF
  by_cases h0 : phC C p = 0
  · simp only [h0, if_true]
    rw [fl3_phase (by split <;> decide), hO.1, hO.2.2]
  · simp only [h0, if_false]
    by_cases h1 : phC C p = 1
    · simp only [h1, if_true]
      split
      · rw [fl3_mov (by decide) hk]
      · rw [fl3_phase (by decide)]
    · simp only [h1, if_false]
      by_cases h2 : phC C p = (if g = 2 then 2 else 3)
      · rw [if_pos h2, if_pos h2]
        by_cases h3 : owC C (spC C p) = p + 1
        · rw [if_pos h3, if_pos h3]
          by_cases h4 : phC C p = 2
          · rw [if_pos h4, if_pos h4, fl3_phase (by decide)]
          · rw [if_neg h4, if_neg h4, fl3_status (by decide)]
        · rw [if_neg h3, if_neg h3, fl3_mov (by decide) hk]
      · rw [if_neg h2, if_neg h2]
        by_cases h4 : phC C p = 2
        · rw [if_pos h4, if_pos h4, fl3_phase (by decide), hD.1, hD.2.2]
        · rw [if_neg h4, if_neg h4, fl3_status (by decide), hD.2.1, hD.2.2]
theorem fl3_step_other {C p q k g : Nat} (hp : p < 3) (hq : q < 3) (hn : q ≠ p) (hk : k ≤ 4) : fl3 (stepC C p k g) q = fl3 C q := by
  have m : ∀ d, d < 2 → fl3 (movC C p k d) q = fl3 C q := by
    intro d hd
    unfold movC
    split
    · exact fl3_other (by decide) hp hq hn (by omega) (by omega)
    · have h := (dgn_mv (spC C p) (dgn_6 (by omega)) d hd).2.1
      exact fl3_other (by omega) hp hq hn (by omega) (by omega)
  unfold stepC
  repeat' split
  all_goals first
    | exact m _ (by decide)
    | exact (fl3_other (by decide) hp hq hn (by omega) (by omega))
    | (rw [fl3_other (by decide) hp hq hn (by omega) (by omega), fl3_reg (by omega) hq (by omega)])
/-- a process' fields are such as occur -/
def pOK (k C p : Nat) : Prop := (stC C p = 2 ∧ phC C p = 0 ∧ spC C p = 0) ∨ (stC C p ≠ 2 ∧ spC C p < 10 ∧ dgn (spC C p) < k)
/-- how many steps a process can still make, at most -/
def pot (C p : Nat) : Nat := if stC C p = 0 then 16 - 4 * dgn (spC C p) - phC C p else 0
theorem pOK_of {k C C2 p q : Nat} (h : fl3 C2 q = fl3 C p) : pOK k C p → pOK k C2 q := by
  unfold fl3 at h
  have h1 : stC C2 q = stC C p := congrArg (fun z => z.1) h
  have h2 : phC C2 q = phC C p := congrArg (fun z => z.2.1) h
  have h3 : spC C2 q = spC C p := congrArg (fun z => z.2.2) h
  unfold pOK
  rw [h1, h2, h3]
  exact id
theorem pot_of {C C2 p q : Nat} (h : fl3 C2 q = fl3 C p) : pot C2 q = pot C p := by
  unfold fl3 at h
  have h1 : stC C2 q = stC C p := congrArg (fun z => z.1) h
  have h2 : phC C2 q = phC C p := congrArg (fun z => z.2.1) h
  have h3 : spC C2 q = spC C p := congrArg (fun z => z.2.2) h
  unfold pot
  rw [h1, h2, h3]
theorem pOK_sp {k C p : Nat} (h : pOK k C p) : spC C p < 10 := by rcases h with ⟨_, _, h⟩ | ⟨_, h, _⟩ <;> omega
/-- a step of a running process: what its fields are afterwards -/
theorem step_p {C p k g : Nat} (hp : p < 3) (hk2 : 2 ≤ k) (hk : k ≤ 4) (hr : stC C p = 0) (hok : pOK k C p) :
    pOK k (stepC C p k g) p ∧ pot (stepC C p k g) p < pot C p := by
  have h := fl3_step (C := C) (g := g) hp hk
  have hd := dgn_le (spC C p)
  have hph := phC_lt C p
  have hs : spC C p < 10 ∧ dgn (spC C p) < k := by rcases hok with ⟨a, _, _⟩ | ⟨_, a, b⟩; omega; exact ⟨a, b⟩
  generalize hC2 : stepC C p k g = C2 at h ⊢
  unfold fl3 at h
  have e1 : stC C2 p = (stepF C p k g).1 := congrArg (fun z => z.1) h
  have e2 : phC C2 p = (stepF C p k g).2.1 := congrArg (fun z => z.2.1) h
  have e3 : spC C2 p = (stepF C p k g).2.2 := congrArg (fun z => z.2.2) h
  have key : ∀ t : Nat × Nat × Nat, stepF C p k g = t → (t = (2, 0, 0) ∨ (∃ d, d < 2 ∧ dgn (spC C p) + 1 < k ∧ t = (0, 0, spC C p + (dgn (spC C p) + 1) + d)) ∨ (∃ v, phC C p < v ∧ v < 4 ∧ t = (0, v, spC C p)) ∨ t = (1, phC C p, spC C p)) := by
    intro t ht
    subst ht
    unfold stepF
    rw [hr]
    by_cases h0 : phC C p = 0
    · simp only [h0, if_true]
      exact Or.inr (Or.inr (Or.inl ⟨_, by split <;> omega, by split <;> omega, rfl⟩))
    · simp only [h0, if_false]
      by_cases h1 : phC C p = 1
      · simp only [h1, if_true]
        split
        · split
          · exact Or.inl rfl
          · exact Or.inr (Or.inl ⟨0, by decide, by omega, rfl⟩)
        · exact Or.inr (Or.inr (Or.inl ⟨2, by omega, by omega, rfl⟩))
      · simp only [h1, if_false]
        by_cases h2 : phC C p = (if g = 2 then 2 else 3)
        · rw [if_pos h2]
          by_cases h3 : owC C (spC C p) = p + 1
          · rw [if_pos h3]
            by_cases h4 : phC C p = 2
            · rw [if_pos h4]
              exact Or.inr (Or.inr (Or.inl ⟨3, by omega, by omega, rfl⟩))
            · rw [if_neg h4]
              exact Or.inr (Or.inr (Or.inr rfl))
          · rw [if_neg h3]
            split
            · exact Or.inl rfl
            · exact Or.inr (Or.inl ⟨1, by decide, by omega, rfl⟩)
        · rw [if_neg h2]
          by_cases h4 : phC C p = 2
          · rw [if_pos h4]
            exact Or.inr (Or.inr (Or.inl ⟨3, by omega, by omega, rfl⟩))
          · rw [if_neg h4]
            exact Or.inr (Or.inr (Or.inr rfl))
  have hpos : pot C p = 16 - 4 * dgn (spC C p) - phC C p := by unfold pot; rw [if_pos hr]
  rcases key _ rfl with h | ⟨d, hd1, hd2, h⟩ | ⟨v, h1, h2, h⟩ | h
  · rw [h] at e1 e2 e3
    refine ⟨Or.inl ⟨e1, e2, e3⟩, ?_⟩
    rw [hpos]
    unfold pot
    rw [if_neg (by omega)]
    omega
  · rw [h] at e1 e2 e3
    obtain ⟨a1, a2, a3⟩ := dgn_mv (spC C p) (dgn_6 (by omega)) d hd1
    refine ⟨Or.inr ⟨by omega, by rw [e3]; exact a2, by rw [e3, a1]; exact hd2⟩, ?_⟩
    rw [hpos]
    unfold pot
    rw [if_pos e1, e2, e3, a1]
    omega
  · rw [h] at e1 e2 e3
    refine ⟨Or.inr ⟨by omega, by rw [e3]; exact hs.1, by rw [e3]; exact hs.2⟩, ?_⟩
    rw [hpos]
    unfold pot
    rw [if_pos e1, e2, e3]
    show 16 - 4 * dgn (spC C p) - v < _
    omega
  · rw [h] at e1 e2 e3
    refine ⟨Or.inr ⟨by omega, by rw [e3]; exact hs.1, by rw [e3]; exact hs.2⟩, ?_⟩
    rw [hpos]
    unfold pot
    rw [if_neg (by omega)]
    omega
/-! ===== counts ===== -/
theorem sF_self (n off w : Nat) : sF n off w (gF n off w) = n := by
  apply Nat.eq_of_testBit_eq
  intro j
  rw [sF_bit (gF_lt _ _ _)]
  split
  · rfl
  · split
    · rw [gF_bit, show off + (j - off) = j by omega]
      simp [show j - off < w by omega]
    · rfl
theorem cnt_gF (n i : Nat) : cnt n i = gF n (6 * i) 6 := rfl
theorem cnt_lt (n i : Nat) : cnt n i < 64 := gF_lt _ _ _
theorem cnt_add (n i : Nat) : n + 2 ^ (6 * i) = sF n (6 * i) 6 (cnt n i + 1) := by
  have h := sF_self n (6 * i) 6
  rw [← cnt_gF] at h
  have h2 : sF n (6 * i) 6 (cnt n i + 1) = sF n (6 * i) 6 (cnt n i) + 2 ^ (6 * i) := by
    unfold sF
    rw [Nat.add_mul, Nat.one_mul]
    omega
  rw [h2, h]
theorem cnt_same {n i : Nat} (h : cnt n i < 63) : cnt (n + 2 ^ (6 * i)) i = cnt n i + 1 := by
  rw [cnt_add, cnt_gF (sF _ _ _ _), gF_sF_same (by omega)]
theorem cnt_other {n i j : Nat} (h : cnt n i < 63) (hij : j ≠ i) : cnt (n + 2 ^ (6 * i)) j = cnt n j := by
  rw [cnt_add, cnt_gF (sF _ _ _ _), gF_sF_other (by omega) (by omega), cnt_gF]
theorem cnt_bd {n i k : Nat} (h : cnt n i < 63) (hn : n < 2 ^ k) (hk : 6 * i + 6 ≤ k) : n + 2 ^ (6 * i) < 2 ^ k := by
  rw [cnt_add]
  exact sF_lt (by omega) hn hk
