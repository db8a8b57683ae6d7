/-! ===== how many bits of a long are set, as the JDK counts them ===== -/
def msk (c : Nat) : Nat → Nat
  | 0 => 0
  | L + 1 => c + 256 * msk c L
theorem m8 (a b : Nat) : b + 256 * a = 2 ^ 8 * a + b := by omega
theorem and2 {a b c m : Nat} (hb : b < 256) (hc : c < 256) : (b + 256 * a) &&& (c + 256 * m) = (b &&& c) + 256 * (a &&& m) := by
  apply Nat.eq_of_testBit_eq
  intro j
  have hbc : b &&& c < 2 ^ 8 := Nat.lt_of_le_of_lt Nat.and_le_left hb
  rw [Nat.testBit_and, m8, m8, m8, Nat.testBit_two_pow_mul_add _ hb, Nat.testBit_two_pow_mul_add _ hc, Nat.testBit_two_pow_mul_add _ hbc]
  split
  · rw [Nat.testBit_and]
  · rw [Nat.testBit_and]
theorem shm {b c m Y s : Nat} (hb : b < 256) (hs : s ≤ 8) (hc : c < 2 ^ (8 - s)) : ((b + 256 * Y) / 2 ^ s) &&& (c + 256 * m) = ((b / 2 ^ s) &&& c) + 256 * ((Y / 2 ^ s) &&& m) := by
  have hc8 : c < 2 ^ 8 := Nat.lt_of_lt_of_le hc (Nat.pow_le_pow_right (by decide) (by omega))
  have hbc : (b / 2 ^ s) &&& c < 2 ^ 8 := Nat.lt_of_le_of_lt Nat.and_le_right hc8
  apply Nat.eq_of_testBit_eq
  intro j
  rw [Nat.testBit_and, m8, m8, m8, Nat.testBit_div_two_pow, Nat.testBit_two_pow_mul_add _ hb, Nat.testBit_two_pow_mul_add _ hc8, Nat.testBit_two_pow_mul_add _ hbc]
  by_cases hj : j < 8
  · rw [if_pos hj, if_pos hj, Nat.testBit_and, Nat.testBit_div_two_pow]
    by_cases hsj : j + s < 8
    · rw [if_pos hsj]
    · have hz : c.testBit j = false := Nat.testBit_lt_two_pow (Nat.lt_of_lt_of_le hc (Nat.pow_le_pow_right (by decide) (by omega)))
      rw [hz, Bool.and_false, Bool.and_false]
  · rw [if_neg hj, if_neg hj, if_neg (by omega), Nat.testBit_and, Nat.testBit_div_two_pow]
    rw [show j + s - 8 = j - 8 + s by omega]
def f1 (b : Nat) : Nat := b - ((b / 2 ^ 1) &&& 85)
def f2 (b : Nat) : Nat := (b &&& 51) + ((b / 2 ^ 2) &&& 51)
def f3 (v : Nat) : Nat := (v + v / 2 ^ 4) % 16
def popB (b : Nat) : Nat := fb_ct (fun j => b.testBit j) 8
theorem f_all : ∀ b, b < 256 → f1 b < 256 ∧ ((b / 2 ^ 1) &&& 85) ≤ b ∧ f2 (f1 b) ≤ 68 ∧ f2 (f1 b) % 16 ≤ 4 ∧ f3 (f2 (f1 b)) = popB b ∧ popB b ≤ 8 := by decide +kernel
def t1 : Nat → Nat → Nat
  | 0, _ => 0
  | L + 1, X => f1 (X % 256) + 256 * t1 L (X / 256)
def t2 : Nat → Nat → Nat
  | 0, _ => 0
  | L + 1, X => f2 (f1 (X % 256)) + 256 * t2 L (X / 256)
def t3 : Nat → Nat → Nat
  | 0, _ => 0
  | L + 1, X => popB (X % 256) + 256 * t3 L (X / 256)
theorem byte (X : Nat) : X % 256 + 256 * (X / 256) = X := by omega
theorem t1_eq : ∀ {L X : Nat}, X < 256 ^ L → ((X / 2 ^ 1) &&& msk 85 L) ≤ X ∧ X - ((X / 2 ^ 1) &&& msk 85 L) = t1 L X
  | 0, X, h => by
    have : X = 0 := by simpa using h
    subst this
    exact ⟨by decide, rfl⟩
  | L + 1, X, h => by
    have hb : X % 256 < 256 := Nat.mod_lt _ (by decide)
    have hY : X / 256 < 256 ^ L := by rw [Nat.pow_succ] at h; omega
    obtain ⟨i1, i2⟩ := t1_eq hY
    have f := f_all _ hb
    have e : (X / 2 ^ 1) &&& msk 85 (L + 1) = ((X % 256 / 2 ^ 1) &&& 85) + 256 * ((X / 256 / 2 ^ 1) &&& msk 85 L) := by
      have := shm (b := X % 256) (c := 85) (m := msk 85 L) (Y := X / 256) (s := 1) hb (by decide) (by decide)
      rw [byte] at this
      exact this
    rw [e]
    have f2 := f.2.1
    refine ⟨by omega, ?_⟩
    show _ = f1 (X % 256) + 256 * t1 L (X / 256)
    rw [← i2]
    unfold f1
    omega
theorem t2_eq : ∀ {L X : Nat}, (t1 L X &&& msk 51 L) + ((t1 L X / 2 ^ 2) &&& msk 51 L) = t2 L X
  | 0, X => by show (0 &&& 0) + ((0 / 2 ^ 2) &&& 0) = 0; decide
  | L + 1, X => by
    have hb : X % 256 < 256 := Nat.mod_lt _ (by decide)
    have f := f_all _ hb
    have i := t2_eq (L := L) (X := X / 256)
    show ((f1 (X % 256) + 256 * t1 L (X / 256)) &&& (51 + 256 * msk 51 L)) + (((f1 (X % 256) + 256 * t1 L (X / 256)) / 2 ^ 2) &&& (51 + 256 * msk 51 L)) = f2 (f1 (X % 256)) + 256 * t2 L (X / 256)
    rw [and2 f.1 (by decide), shm f.1 (by decide) (by decide), ← i]
    show _ = ((f1 (X % 256) &&& 51) + ((f1 (X % 256) / 2 ^ 2) &&& 51)) + _
    omega
theorem t2_16 : ∀ (L X : Nat), t2 L X % 16 ≤ 4
  | 0, _ => by show 0 % 16 ≤ 4; decide
  | L + 1, X => by
    have f := f_all _ (Nat.mod_lt X (by decide : 0 < 256))
    show (f2 (f1 (X % 256)) + 256 * t2 L (X / 256)) % 16 ≤ 4
    have := f.2.2.2.1
    omega
theorem and15 (l : Nat) : l &&& 15 = l % 16 := Nat.and_two_pow_sub_one_eq_mod l 4
theorem t3_eq : ∀ {L X : Nat}, (t2 L X + t2 L X / 2 ^ 4) &&& msk 15 L = t3 L X
  | 0, X => by show (0 + 0 / 2 ^ 4) &&& 0 = 0; decide
  | L + 1, X => by
    have f := f_all _ (Nat.mod_lt X (by decide : 0 < 256))
    have i := t3_eq (L := L) (X := X / 256)
    have h16 := t2_16 L (X / 256)
    show (f2 (f1 (X % 256)) + 256 * t2 L (X / 256) + (f2 (f1 (X % 256)) + 256 * t2 L (X / 256)) / 2 ^ 4) &&& (15 + 256 * msk 15 L) = popB (X % 256) + 256 * t3 L (X / 256)
    have f3' := f.2.2.2.2.1
    have f68 := f.2.2.1
    unfold f3 at f3'
    rw [← i, ← f3']
    generalize f2 (f1 (X % 256)) = v at *
    generalize t2 L (X / 256) = Y at *
    have e : v + 256 * Y + (v + 256 * Y) / 2 ^ 4 = (v + v / 2 ^ 4 + 16 * (Y % 16)) + 256 * (Y + Y / 2 ^ 4) := by omega
    rw [e, and2 (by omega) (by decide), and15]
    congr 1
    omega
theorem t1_le : ∀ {L X : Nat}, t1 L X ≤ 255 * msk 1 L
  | 0, _ => Nat.le_refl 0
  | L + 1, X => by
    have f := f_all _ (Nat.mod_lt X (by decide : 0 < 256))
    have i := t1_le (L := L) (X := X / 256)
    show f1 (X % 256) + 256 * t1 L (X / 256) ≤ 255 * (1 + 256 * msk 1 L)
    have := f.1
    omega
theorem t2_le : ∀ {L X : Nat}, t2 L X ≤ 68 * msk 1 L
  | 0, _ => Nat.le_refl 0
  | L + 1, X => by
    have f := f_all _ (Nat.mod_lt X (by decide : 0 < 256))
    have i := t2_le (L := L) (X := X / 256)
    show f2 (f1 (X % 256)) + 256 * t2 L (X / 256) ≤ 68 * (1 + 256 * msk 1 L)
    have := f.2.2.1
    omega
theorem msk1 : msk 1 8 = 72340172838076673 := by decide
/-- the digits' sum is the number of bits -/
def s3 : Nat → Nat → Nat
  | 0, _ => 0
  | L + 1, X => popB (X % 256) + s3 L (X / 256)
theorem s3_eq : ∀ {L X : Nat}, s3 L X = fb_ct (fun j => X.testBit j) (8 * L)
  | 0, _ => rfl
  | L + 1, X => by
    rw [show 8 * (L + 1) = 8 + 8 * L by omega, fb_ct_split]
    have e1 : fb_ct (fun j => X.testBit j) 8 = popB (X % 256) := by
      unfold popB
      refine fb_ct_cong (fun k hk => ?_)
      rw [show (256 : Nat) = 2 ^ 8 from rfl, Nat.testBit_mod_two_pow]
      simp [hk]
    have e2 : (fun k => X.testBit (8 + k)) = fun k => (X / 256).testBit k := by
      funext k
      rw [show (256 : Nat) = 2 ^ 8 from rfl, Nat.testBit_div_two_pow, Nat.add_comm]
    rw [e1, e2]
    show popB (X % 256) + s3 L (X / 256) = _
    rw [s3_eq]
theorem popB_le (X : Nat) : popB (X % 256) ≤ 8 := (f_all _ (Nat.mod_lt X (by decide))).2.2.2.2.2
theorem fold8 {c0 c1 c2 c3 c4 c5 c6 c7 : Nat} (h0 : c0 ≤ 8) (h1 : c1 ≤ 8) (h2 : c2 ≤ 8) (h3 : c3 ≤ 8) (h4 : c4 ≤ 8) (h5 : c5 ≤ 8) (h6 : c6 ≤ 8) (h7 : c7 ≤ 8) {D0 D1 D2 D3 D4 D5 D6 i4 i5 i6 : Nat}
    (e6 : D6 = c6 + 256 * c7) (e5 : D5 = c5 + 256 * D6) (e4 : D4 = c4 + 256 * D5) (e3 : D3 = c3 + 256 * D4) (e2 : D2 = c2 + 256 * D3) (e1 : D1 = c1 + 256 * D2) (e0 : D0 = c0 + 256 * D1) (a4 : i4 = D0 + D0 / 2 ^ 8) (a5 : i5 = i4 + i4 / 2 ^ 16) (a6 : i6 = i5 + i5 / 2 ^ 32) :
    i6 % 2 ^ 7 = c0 + (c1 + (c2 + (c3 + (c4 + (c5 + (c6 + c7)))))) := by
  have b1 : D0 / 2 ^ 8 = D1 := by omega
  have b2 : i4 / 2 ^ 16 = D2 + D3 := by omega
  have b3 : i5 / 2 ^ 32 = D4 + D5 + D6 + c7 := by omega
  omega
theorem pop_end (X : Nat) {i4 i5 i6 : Nat} (a4 : i4 = t3 8 X + t3 8 X / 2 ^ 8) (a5 : i5 = i4 + i4 / 2 ^ 16) (a6 : i6 = i5 + i5 / 2 ^ 32) : i6 % 2 ^ 7 = fb_ct (fun j => X.testBit j) 64 := by
  have h := s3_eq (L := 8) (X := X)
  rw [show 8 * 8 = 64 from rfl] at h
  rw [← h]
  refine Eq.trans (fold8 (popB_le X) (popB_le (X / 256)) (popB_le (X / 256 / 256)) (popB_le (X / 256 / 256 / 256)) (popB_le (X / 256 / 256 / 256 / 256)) (popB_le (X / 256 / 256 / 256 / 256 / 256)) (popB_le (X / 256 / 256 / 256 / 256 / 256 / 256)) (popB_le (X / 256 / 256 / 256 / 256 / 256 / 256 / 256)) (D0 := t3 8 X) (D1 := t3 7 (X / 256)) (D2 := t3 6 (X / 256 / 256)) (D3 := t3 5 (X / 256 / 256 / 256)) (D4 := t3 4 (X / 256 / 256 / 256 / 256)) (D5 := t3 3 (X / 256 / 256 / 256 / 256 / 256)) (D6 := t3 2 (X / 256 / 256 / 256 / 256 / 256 / 256)) rfl rfl rfl rfl rfl rfl rfl a4 a5 a6) ?_
  rfl
theorem t3_le : ∀ {L X : Nat}, t3 L X ≤ 8 * msk 1 L
  | 0, _ => Nat.le_refl 0
  | L + 1, X => by
    have i := t3_le (L := L) (X := X / 256)
    show popB (X % 256) + 256 * t3 L (X / 256) ≤ 8 * (1 + 256 * msk 1 L)
    have := popB_le X
    omega
