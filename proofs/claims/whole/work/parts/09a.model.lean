/-! ===== the model's numbers: registers, processes as ints ===== -/
def mF (r : Nat → Nat) (g : Nat → Int32) : List Value := [.int (g 0), .ref (r 1), .ref (r 2), .int (g 3), .ref (r 4), .ref (r 5), .ref (r 6), .int (g 7), .int (g 8), .int (g 9), .int (g 10), .int (g 11), .int (g 12), .int (g 13), .int (g 14), .int (g 15), .int (g 16), .ref (r 17), .ref (r 18), .ref (r 19), .ref (r 20), .ref (r 21), .int (g 22), .ref (r 23), .int (g 24), .int (g 25), .int (g 26), .int (g 27), .int (g 28), .int (g 29), .ref (r 30), .ref (r 31), .int (g 32), .ref (r 33)]
def regs (C : Nat) : Nat := C / 2 ^ 24
def qbF (t : Nat × Nat × Nat) : Nat := t.1 + 4 * (if t.1 = 2 then 15 else t.2.2) + 64 * t.2.1
def qb (C p : Nat) : Nat := qbF (fl3 C p)
def qn (C : Nat) : Nat := qb C 0 + 256 * qb C 1 + 65536 * qb C 2
theorem qb_lt (C p : Nat) : qb C p < 256 := by
  unfold qb qbF fl3
  have h1 := stC_lt C p
  have h2 := phC_lt C p
  have h3 := spC_lt C p
  show stC C p + 4 * (if stC C p = 2 then 15 else spC C p) + 64 * phC C p < 256
  split <;> omega
theorem qn_lt (C : Nat) : qn C < 2 ^ 24 := by
  have h0 := qb_lt C 0
  have h1 := qb_lt C 1
  have h2 := qb_lt C 2
  unfold qn
  omega
theorem qn_byte {C p : Nat} (hp : p < 3) : gF (qn C) (8 * p) 8 = qb C p := by
  have h0 := qb_lt C 0
  have h1 := qb_lt C 1
  have h2 := qb_lt C 2
  unfold gF qn
  rcases (show p = 0 ∨ p = 1 ∨ p = 2 by omega) with rfl | rfl | rfl
  · show _ / 2 ^ 0 % 2 ^ 8 = _; omega
  · show _ / 2 ^ 8 % 2 ^ 8 = _; omega
  · show _ / 2 ^ 16 % 2 ^ 8 = _; omega
theorem qn_st {C p : Nat} (hp : p < 3) : gF (qn C) (8 * p) 2 = stC C p := by
  have h : gF (qn C) (8 * p + 0) 2 = gF (gF (qn C) (8 * p) 8) 0 2 := (gF_gF (by decide)).symm
  rw [Nat.add_zero] at h
  rw [h, qn_byte hp]
  have h1 := stC_lt C p
  show (stC C p + 4 * (if stC C p = 2 then 15 else spC C p) + 64 * phC C p) / 2 ^ 0 % 2 ^ 2 = _
  split <;> omega
theorem qn_sp {C p : Nat} (hp : p < 3) : gF (qn C) (8 * p + 2) 4 = if stC C p = 2 then 15 else spC C p := by
  rw [← gF_gF (n := qn C) (w := 8) (by decide), qn_byte hp]
  have h1 := stC_lt C p
  have h3 := spC_lt C p
  show (stC C p + 4 * (if stC C p = 2 then 15 else spC C p) + 64 * phC C p) / 2 ^ 2 % 2 ^ 4 = _
  split <;> omega
theorem qn_ph {C p : Nat} (hp : p < 3) : gF (qn C) (8 * p + 6) 2 = phC C p := by
  rw [← gF_gF (n := qn C) (w := 8) (by decide), qn_byte hp]
  have h1 := stC_lt C p
  have h2 := phC_lt C p
  have h3 := spC_lt C p
  show (stC C p + 4 * (if stC C p = 2 then 15 else spC C p) + 64 * phC C p) / 2 ^ 6 % 2 ^ 2 = _
  split <;> omega
theorem qn_set {C C2 p b : Nat} (hp : p < 3) (hb : qb C2 p = b) (ho : ∀ q, q < 3 → q ≠ p → fl3 C2 q = fl3 C q) : qn C2 = sF (qn C) (8 * p) 8 b := by
  have h0 := qb_lt C 0
  have h1 := qb_lt C 1
  have h2 := qb_lt C 2
  have e : ∀ q, q < 3 → q ≠ p → qb C2 q = qb C q := fun q h1 h2 => by unfold qb; rw [ho q h1 h2]
  have hb2 := qb_lt C2 p
  rw [hb] at hb2
  unfold qn sF
  rcases (show p = 0 ∨ p = 1 ∨ p = 2 by omega) with rfl | rfl | rfl
  · rw [hb, e 1 (by decide) (by decide), e 2 (by decide) (by decide)]
    show _ = _ / 2 ^ 8 * 2 ^ 8 + (b * 2 ^ 0 + _ % 2 ^ 0)
    omega
  · rw [hb, e 0 (by decide) (by decide), e 2 (by decide) (by decide)]
    show _ = _ / 2 ^ 16 * 2 ^ 16 + (b * 2 ^ 8 + _ % 2 ^ 8)
    omega
  · rw [hb, e 0 (by decide) (by decide), e 1 (by decide) (by decide)]
    show _ = _ / 2 ^ 24 * 2 ^ 24 + (b * 2 ^ 16 + _ % 2 ^ 16)
    omega
theorem qn_step {C p k g : Nat} (hp : p < 3) (hk : k ≤ 4) : qn (stepC C p k g) = sF (qn C) (8 * p) 8 (qbF (stepF C p k g)) :=
  qn_set hp (by unfold qb; rw [fl3_step hp hk]) (fun q hq hn => fl3_step_other hp hq hn hk)
theorem regs_g (C o w : Nat) : gF (regs C) o w = gF C (24 + o) w := by
  unfold gF regs
  rw [Nat.div_div_eq_div_mul, ← Nat.pow_add]
theorem regs_bit (C j : Nat) : (regs C).testBit j = C.testBit (24 + j) := by
  unfold regs
  rw [Nat.testBit_div_two_pow, Nat.add_comm]
theorem regs_hi {C o w v : Nat} (hv : v < 2 ^ w) : regs (sF C (24 + o) w v) = sF (regs C) o w v := by
  apply Nat.eq_of_testBit_eq
  intro j
  rw [regs_bit, sF_bit hv, sF_bit hv, regs_bit]
  by_cases c1 : j < o
  · rw [if_pos (by omega), if_pos c1]
  · rw [if_neg (by omega), if_neg c1]
    by_cases c2 : j < o + w
    · rw [if_pos (by omega), if_pos c2]
      congr 1
      omega
    · rw [if_neg (by omega), if_neg c2]
theorem regs_lo {C o w v : Nat} (hv : v < 2 ^ w) (h : o + w ≤ 24) : regs (sF C o w v) = regs C := by
  apply Nat.eq_of_testBit_eq
  intro j
  rw [regs_bit, sF_bit hv, regs_bit, if_neg (by omega), if_neg (by omega)]
theorem regs_lt {C : Nat} (h : C < 2 ^ 54) : regs C < 2 ^ 30 := by unfold regs; omega
theorem regs_mov {C p k d : Nat} (hp : p < 3) (hd : d < 2) (hk : k ≤ 4) : regs (movC C p k d) = regs C := by
  unfold movC
  split
  · exact regs_lo (by decide) (by omega)
  · have h := (dgn_mv (spC C p) (dgn_6 (by omega)) d hd).2.1
    exact regs_lo (by omega) (by omega)
/-- the registers behind a step -/
def regF (C p g : Nat) : Nat :=
  if phC C p = 0 then sF (regs C) (3 * spC C p) 2 (p + 1)
  else if phC C p = 1 then regs C
  else if phC C p = (if g = 2 then 2 else 3) then regs C else sF (regs C) (3 * spC C p + 2) 1 1
theorem regs_step {C p k g : Nat} (hp : p < 3) (hk : k ≤ 4) : regs (stepC C p k g) = regF C p g := by
  unfold stepC regF
  by_cases h0 : phC C p = 0
  · rw [if_pos h0, if_pos h0, regs_lo (by split <;> decide) (by omega), regs_hi (by omega)]
  · rw [if_neg h0, if_neg h0]
    by_cases h1 : phC C p = 1
    · rw [if_pos h1, if_pos h1]
      split
      · exact regs_mov hp (by decide) hk
      · exact regs_lo (by decide) (by omega)
    · rw [if_neg h1, if_neg h1]
      by_cases h2 : phC C p = (if g = 2 then 2 else 3)
      · rw [if_pos h2, if_pos h2]
        split
        · split
          · exact regs_lo (by decide) (by omega)
          · exact regs_lo (by decide) (by omega)
        · exact regs_mov hp (by decide) hk
      · rw [if_neg h2, if_neg h2]
        split
        · rw [regs_lo (by decide) (by omega), Nat.add_assoc, regs_hi (by decide)]
        · rw [regs_lo (by decide) (by omega), Nat.add_assoc, regs_hi (by decide)]
theorem or_add {a b k : Nat} (h : a < 2 ^ k) : nI a ||| nI (b * 2 ^ k) = nI (a + b * 2 ^ k) := by
  rw [fa_or]
  congr 1
  apply Nat.eq_of_testBit_eq
  intro j
  rw [Nat.testBit_or, Nat.add_comm, Nat.mul_comm, Nat.testBit_two_pow_mul_add _ h, Nat.testBit_two_pow_mul]
  by_cases c : j < k
  · rw [if_pos c]
    simp [show ¬ k ≤ j by omega]
  · rw [if_neg c, Nat.testBit_lt_two_pow (Nat.lt_of_lt_of_le h (Nat.pow_le_pow_right (by decide) (by omega)))]
    simp [show k ≤ j by omega]
theorem nar_b {x : Nat} (h : x < 2) : narrow .boolean (.int (nI x)) = .int (nI x) := by
  rcases (show x = 0 ∨ x = 1 by omega) with rfl | rfl <;> rfl
theorem not_I (x : Int32) : x ^^^ (-1) = x ^^^ (-1) := rfl
