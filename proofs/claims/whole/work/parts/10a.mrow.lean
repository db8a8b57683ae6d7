/-! ===== the model's row of a state ===== -/
def mS (S : Nat → Nat) (k : Nat) : Nat := if k < 3 then S k else if k = 3 then regs (S 3) else if k = 4 then qn (S 3) else if k < 8 then cnt (S 4) (k - 5) else if k < 18 then cnt (S 5) (k - 8) else if k < 28 then cnt (S 6) (k - 18) else cnt (S 7) (k - 28)
abbrev MR (s S : Nat → Nat) : Prop := ∀ j, j < 38 → s j = mS S j
theorem mS_4 (S : Nat → Nat) {p : Nat} (hp : p < 3) : mS S (5 + p) = cnt (S 4) p := by
  unfold mS; rw [if_neg (by omega), if_neg (by omega), if_neg (by omega), if_pos (by omega), show 5 + p - 5 = p by omega]
theorem mS_5 (S : Nat → Nat) {t : Nat} (ht : t < 10) : mS S (8 + t) = cnt (S 5) t := by
  unfold mS; rw [if_neg (by omega), if_neg (by omega), if_neg (by omega), if_neg (by omega), if_pos (by omega), show 8 + t - 8 = t by omega]
theorem mS_6 (S : Nat → Nat) {t : Nat} (ht : t < 10) : mS S (18 + t) = cnt (S 6) t := by
  unfold mS; rw [if_neg (by omega), if_neg (by omega), if_neg (by omega), if_neg (by omega), if_neg (by omega), if_pos (by omega), show 18 + t - 18 = t by omega]
theorem mS_7 (S : Nat → Nat) {t : Nat} (ht : t < 10) : mS S (28 + t) = cnt (S 7) t := by
  unfold mS; rw [if_neg (by omega), if_neg (by omega), if_neg (by omega), if_neg (by omega), if_neg (by omega), if_neg (by omega), show 28 + t - 28 = t by omega]
theorem mS_case {j : Nat} (h : j < 38) : j = 0 ∨ j = 1 ∨ j = 2 ∨ j = 3 ∨ j = 4 ∨ (∃ p, p < 3 ∧ j = 5 + p) ∨ (∃ t, t < 10 ∧ j = 8 + t) ∨ (∃ t, t < 10 ∧ j = 18 + t) ∨ (∃ t, t < 10 ∧ j = 28 + t) := by
  by_cases a : j < 5
  · omega
  · by_cases b : j < 8
    · exact Or.inr (Or.inr (Or.inr (Or.inr (Or.inr (Or.inl ⟨j - 5, by omega, by omega⟩)))))
    · by_cases c : j < 18
      · exact Or.inr (Or.inr (Or.inr (Or.inr (Or.inr (Or.inr (Or.inl ⟨j - 8, by omega, by omega⟩))))))
      · by_cases d : j < 28
        · exact Or.inr (Or.inr (Or.inr (Or.inr (Or.inr (Or.inr (Or.inr (Or.inl ⟨j - 18, by omega, by omega⟩)))))))
        · exact Or.inr (Or.inr (Or.inr (Or.inr (Or.inr (Or.inr (Or.inr (Or.inr ⟨j - 28, by omega, by omega⟩)))))))
theorem cnt_beg {n i : Nat} (hn : n ≤ 3) (hi : 0 < i) : cnt n i = 0 := by
  unfold cnt
  have h : 2 ^ 6 ≤ 2 ^ (6 * i) := Nat.pow_le_pow_right (by decide) (by omega)
  rw [Nat.div_eq_of_lt (by omega)]
theorem cnt_beg0 {n : Nat} (hn : n ≤ 3) : cnt n 0 = n := by
  unfold cnt
  show n / 2 ^ (6 * 0) % 64 = n
  rw [Nat.mul_zero, Nat.pow_zero, Nat.div_one, Nat.mod_eq_of_lt (by omega)]
theorem qn_0 : qn 0 = 0 := by decide +kernel
theorem regs_0 : regs 0 = 0 := by decide +kernel
/-- a state's row at its beginning -/
def begR (s : Nat → Nat) (z n g : Nat) : Nat → Nat := va_up (va_up (va_up (va_up (fun j => if j < 38 then 0 else s j) 0 z) 1 n) 2 g) 8 n
theorem begR_MR (s : Nat → Nat) {z n g : Nat} (hn : n ≤ 3) : MR (begR s z n g) (begS z n g) := by
  intro j hj
  unfold begR va_up
  rcases mS_case hj with rfl | rfl | rfl | rfl | rfl | ⟨p, hp, rfl⟩ | ⟨t, ht, rfl⟩ | ⟨t, ht, rfl⟩ | ⟨t, ht, rfl⟩
  · rfl
  · rfl
  · rfl
  · show 0 = regs 0; exact regs_0.symm
  · show 0 = qn 0; exact qn_0.symm
  · rw [mS_4 _ hp, if_neg (by omega), if_neg (by omega), if_neg (by omega), if_neg (by omega)]; dsimp only; rw [if_pos (by omega)]; exact (cnt_0 p).symm
  · rw [mS_5 _ ht]
    show _ = cnt n t
    by_cases e : t = 0
    · subst e; rw [if_pos rfl, cnt_beg0 hn]
    · rw [if_neg (by omega), if_neg (by omega), if_neg (by omega), if_neg (by omega)]; dsimp only; rw [if_pos (by omega), cnt_beg hn (by omega)]
  · rw [mS_6 _ ht, if_neg (by omega), if_neg (by omega), if_neg (by omega), if_neg (by omega)]; dsimp only; rw [if_pos (by omega)]; exact (cnt_0 t).symm
  · rw [mS_7 _ ht, if_neg (by omega), if_neg (by omega), if_neg (by omega), if_neg (by omega)]; dsimp only; rw [if_pos (by omega)]; exact (cnt_0 t).symm
/-- a row behind a step -/
def mkR (s S : Nat → Nat) (p : Nat) : Nat → Nat := fun j => if j < 38 then mS (advS S p) j else s j
theorem mkR_MR (s S : Nat → Nat) (p : Nat) : MR (mkR s S p) (advS S p) := fun j hj => by unfold mkR; rw [if_pos hj]
theorem sp_ne2 {C p k g : Nat} (h : stA C p k g = 2 ∨ stA C p k g = 3) : stC (stepC C p k g) p ≠ 2 := by
  intro e
  have : (fl3 (stepC C p k g) p).1 = 2 := e
  unfold stA stAF at h
  rw [this, if_neg (by decide), if_neg (fun z => absurd z.1 (by decide)), if_pos rfl] at h
  omega
/-- a row behind a step, place by place -/
theorem mS_adv {S : Nat → Nat} {p : Nat} (h : SOK S) (hp : p < 3) (hr : stC (S 3) p = 0) {j : Nat} (hj : j < 38) : mS (advS S p) j = if j = 3 then regs (nxC S p) else if j = 4 then qn (nxC S p) else if j = 5 + p then mS S j + 1 else if 2 ≤ advA S p ∧ j = (if phC (S 3) p = 1 then 18 else 28) + spC (S 3) p then mS S j + 1 else if (advA S p = 2 ∨ advA S p = 3) ∧ j = 8 + spC (nxC S p) p then mS S j + 1 else mS S j := by
  have a4 := h.2.2.2.2.1 p hp
  have hs10 := pOK_sp a4
  have hs := step_p (g := S 2) hp h.1.1 h.1.2 hr a4
  have hn10 : spC (nxC S p) p < 10 := pOK_sp hs.1
  have htot := tot_le h
  have hc := h.2.2.2.2.2.2.2
  have hcp := h.2.2.2.2.2.1 p hp
  rcases mS_case hj with rfl | rfl | rfl | rfl | rfl | ⟨q, hq, rfl⟩ | ⟨t, ht, rfl⟩ | ⟨t, ht, rfl⟩ | ⟨t, ht, rfl⟩
  · rw [if_neg (by decide), if_neg (by decide), if_neg (by omega), if_neg (fun z => by have := z.2; split at this <;> omega), if_neg (fun z => by omega)]; rfl
  · rw [if_neg (by decide), if_neg (by decide), if_neg (by omega), if_neg (fun z => by have := z.2; split at this <;> omega), if_neg (fun z => by omega)]; rfl
  · rw [if_neg (by decide), if_neg (by decide), if_neg (by omega), if_neg (fun z => by have := z.2; split at this <;> omega), if_neg (fun z => by omega)]; rfl
  · rfl
  · rfl
  · rw [if_neg (by omega), if_neg (by omega), mS_4 _ hq, mS_4 _ hq]
    show cnt (S 4 + 2 ^ (6 * p)) q = _
    by_cases e : q = p
    · subst e; rw [if_pos rfl, cnt_same (by omega)]
    · rw [if_neg (by omega), if_neg (fun z => by have := z.2; split at this <;> omega), if_neg (fun z => by omega), cnt_other (by omega) e]
  · rw [if_neg (by omega), if_neg (by omega), if_neg (by omega), if_neg (fun z => by have := z.2; split at this <;> omega), mS_5 _ ht, mS_5 _ ht, advS_5]
    by_cases a : advA S p = 2 ∨ advA S p = 3
    · rw [if_pos a]
      have := (hc (spC (nxC S p) p) hn10).1
      by_cases e : t = spC (nxC S p) p
      · rw [if_pos ⟨a, by omega⟩, e, cnt_same (by omega)]
      · rw [if_neg (fun z => e (by omega)), cnt_other (by omega) e]
    · rw [if_neg a, if_neg (fun z => a z.1)]
  · rw [if_neg (by omega), if_neg (by omega), if_neg (by omega), mS_6 _ ht, mS_6 _ ht, advS_6]
    have hb := (hc (spC (S 3) p) hs10).2.1
    by_cases a : 2 ≤ advA S p ∧ phC (S 3) p = 1
    · rw [if_pos a, if_pos a.2]
      by_cases e : t = spC (S 3) p
      · rw [if_pos ⟨a.1, by omega⟩, e, cnt_same (by omega)]
      · rw [if_neg (fun z => e (by omega)), if_neg (fun z => by omega), cnt_other (by omega) e]
    · rw [if_neg a, if_neg (fun z => by
        by_cases b : phC (S 3) p = 1
        · exact a ⟨z.1, b⟩
        · have := z.2; rw [if_neg b] at this; omega), if_neg (fun z => by omega)]
  · rw [if_neg (by omega), if_neg (by omega), if_neg (by omega), mS_7 _ ht, mS_7 _ ht, advS_7]
    have hb := (hc (spC (S 3) p) hs10).2.2
    by_cases a : 2 ≤ advA S p ∧ phC (S 3) p ≠ 1
    · rw [if_pos a, if_neg a.2]
      by_cases e : t = spC (S 3) p
      · rw [if_pos ⟨a.1, by omega⟩, e, cnt_same (by omega)]
      · rw [if_neg (fun z => e (by omega)), if_neg (fun z => by omega), cnt_other (by omega) e]
    · rw [if_neg a, if_neg (fun z => by
        by_cases b : phC (S 3) p = 1
        · have := z.2; rw [if_pos b] at this; omega
        · exact a ⟨z.1, b⟩), if_neg (fun z => by omega)]
theorem vu_e {f : Nat → Nat} {k v j : Nat} (h : j = k) : va_up f k v j = v := by unfold va_up; rw [if_pos h]
theorem vu_n {f : Nat → Nat} {k v j : Nat} (h : j ≠ k) : va_up f k v j = f j := by unfold va_up; rw [if_neg h]
theorem mk_1 {s S : Nat → Nat} {p : Nat} (hs : MR s S) (h : SOK S) (hp : p < 3) (hr : stC (S 3) p = 0) (ha : advA S p < 2) : (fun f => va_up f (5 + p) (f (5 + p) + 1)) (va_up (va_up s 3 (regs (nxC S p))) 4 (qn (nxC S p))) = mkR s S p := by
  funext j
  dsimp only
  unfold mkR
  by_cases hj : j < 38
  · rw [if_pos hj, mS_adv h hp hr hj, if_neg (c := 2 ≤ _ ∧ _) (fun z => by omega), if_neg (c := (_ ∨ _) ∧ _) (fun z => by omega), ← hs j hj]
    by_cases e5 : j = 5 + p
    · subst e5; rw [vu_e rfl, vu_n (by omega), vu_n (by omega), if_neg (by omega), if_neg (by omega), if_pos rfl]
    · rw [vu_n e5]
      by_cases e4 : j = 4
      · subst e4; rfl
      · rw [vu_n e4]
        by_cases e3 : j = 3
        · subst e3; rfl
        · rw [vu_n e3, if_neg e3, if_neg e4, if_neg e5]
  · rw [if_neg hj, vu_n (by omega), vu_n (by omega), vu_n (by omega)]
theorem mk_2 {s S : Nat → Nat} {p d : Nat} (hs : MR s S) (h : SOK S) (hp : p < 3) (hr : stC (S 3) p = 0) (ha : 2 ≤ advA S p) (hb : ¬ (advA S p = 2 ∨ advA S p = 3)) (hd : d = if phC (S 3) p = 1 then 18 else 28) : (fun f => va_up f (d + spC (S 3) p) (f (d + spC (S 3) p) + 1)) ((fun f => va_up f (5 + p) (f (5 + p) + 1)) (va_up (va_up s 3 (regs (nxC S p))) 4 (qn (nxC S p)))) = mkR s S p := by
  have hs10 := pOK_sp (h.2.2.2.2.1 p hp)
  have hd2 : d = 18 ∨ d = 28 := by rw [hd]; split <;> omega
  funext j
  dsimp only
  unfold mkR
  by_cases hj : j < 38
  · rw [if_pos hj, mS_adv h hp hr hj, ← hd, if_neg (c := (_ ∨ _) ∧ _) (fun z => hb z.1), ← hs j hj]
    by_cases e6 : j = d + spC (S 3) p
    · rw [vu_e e6, vu_n (by omega), vu_n (by omega), vu_n (by omega), if_neg (by omega), if_neg (by omega), if_neg (by omega), if_pos ⟨ha, e6⟩, e6]
    · rw [vu_n e6, if_neg (c := _ ∧ _) (fun z => e6 z.2)]
      by_cases e5 : j = 5 + p
      · rw [vu_e e5, vu_n (by omega), vu_n (by omega), if_neg (by omega), if_neg (by omega), if_pos e5, e5]
      · rw [vu_n e5]
        by_cases e4 : j = 4
        · subst e4; rfl
        · rw [vu_n e4]
          by_cases e3 : j = 3
          · subst e3; rfl
          · rw [vu_n e3, if_neg e3, if_neg e4, if_neg e5]
  · rw [if_neg hj, vu_n (by omega), vu_n (by omega), vu_n (by omega), vu_n (by omega)]
theorem mk_3 {s S : Nat → Nat} {p d : Nat} (hs : MR s S) (h : SOK S) (hp : p < 3) (hr : stC (S 3) p = 0) (ha : advA S p = 2 ∨ advA S p = 3) (hd : d = if phC (S 3) p = 1 then 18 else 28) : (fun f => va_up f (8 + spC (nxC S p) p) (f (8 + spC (nxC S p) p) + 1)) ((fun f => va_up f (d + spC (S 3) p) (f (d + spC (S 3) p) + 1)) ((fun f => va_up f (5 + p) (f (5 + p) + 1)) (va_up (va_up s 3 (regs (nxC S p))) 4 (qn (nxC S p))))) = mkR s S p := by
  have hs10 := pOK_sp (h.2.2.2.2.1 p hp)
  have hn10 : spC (nxC S p) p < 10 := pOK_sp (step_p (g := S 2) hp h.1.1 h.1.2 hr (h.2.2.2.2.1 p hp)).1
  have hd2 : d = 18 ∨ d = 28 := by rw [hd]; split <;> omega
  funext j
  dsimp only
  unfold mkR
  by_cases hj : j < 38
  · rw [if_pos hj, mS_adv h hp hr hj, ← hd, ← hs j hj]
    by_cases e7 : j = 8 + spC (nxC S p) p
    · rw [vu_e e7, vu_n (by omega), vu_n (by omega), vu_n (by omega), vu_n (by omega), if_neg (c := _ = 3) (by omega), if_neg (c := _ = 4) (by omega), if_neg (c := _ = 5 + p) (by omega), if_neg (c := _ ∧ _) (fun z => by omega), if_pos ⟨ha, e7⟩, e7]
    · rw [vu_n e7, if_neg (c := (_ ∨ _) ∧ _) (fun z => e7 z.2)]
      by_cases e6 : j = d + spC (S 3) p
      · rw [vu_e e6, vu_n (by omega), vu_n (by omega), vu_n (by omega), if_neg (by omega), if_neg (by omega), if_neg (by omega), if_pos ⟨by omega, e6⟩, e6]
      · rw [vu_n e6, if_neg (c := _ ∧ _) (fun z => e6 z.2)]
        by_cases e5 : j = 5 + p
        · rw [vu_e e5, vu_n (by omega), vu_n (by omega), if_neg (by omega), if_neg (by omega), if_pos e5, e5]
        · rw [vu_n e5]
          by_cases e4 : j = 4
          · subst e4; rfl
          · rw [vu_n e4]
            by_cases e3 : j = 3
            · subst e3; rfl
            · rw [vu_n e3, if_neg e3, if_neg e4, if_neg e5]
  · rw [if_neg hj, vu_n (by omega), vu_n (by omega), vu_n (by omega), vu_n (by omega), vu_n (by omega)]

