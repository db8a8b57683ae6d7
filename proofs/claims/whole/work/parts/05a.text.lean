/-! ===== the text and its reading, one character at a time ===== -/
def rwN (T : Nat → Nat) : Nat → Int32 := fun i => nI (T i)
theorem rwN_up (T : Nat → Nat) (k v : Nat) : upd (rwN T) k (nI v) = rwN (va_up T k v) := by
  funext i
  unfold upd rwN va_up
  split <;> rfl
theorem nar_char {v : Nat} (h : v < 65536) : vp_nar .char (nI v) = nI v := by unfold vp_nar; rw [(pk_charN h).1]
/-- coded numbers: 0 is -1 -/
def zI (x : Nat) : Int32 := if x = 0 then -1 else nI (x - 1)
theorem zI_s (x : Nat) : zI (x + 1) = nI x := by unfold zI; rw [if_neg (by omega)]; rfl
theorem zI_0 : zI 0 = -1 := rfl
theorem zI_p {x : Nat} (h : 0 < x) : zI x = nI (x - 1) := by unfold zI; rw [if_neg (by omega)]
theorem zI_lt {x : Nat} (hx : x < 2 ^ 31) : zI x < 0 ↔ x = 0 := by
  by_cases h : x = 0
  · subst h; exact ⟨fun _ => rfl, fun _ => by decide⟩
  · rw [zI_p (by omega)]
    exact ⟨fun q => absurd q (nI_pos (by omega)), fun q => absurd q h⟩
theorem zI_ge {x : Nat} (hx : x < 2 ^ 31) : 0 ≤ zI x ↔ x ≠ 0 := by
  by_cases h : x = 0
  · subst h; exact ⟨fun q => absurd q (by decide), fun q => absurd rfl q⟩
  · rw [zI_p (by omega)]
    exact ⟨fun _ => h, fun _ => nI_pos' (by omega)⟩
theorem zI_eq {x y : Nat} (hx : x < 2 ^ 31) (hy : y < 2 ^ 30) : zI x = nI y ↔ x = y + 1 := by
  by_cases h : x = 0
  · subst h
    refine ⟨fun q => ?_, fun q => absurd q (by omega)⟩
    have a := congrArg Int32.toInt q
    rw [nI_toInt (by omega)] at a
    have b : (zI 0).toInt = -1 := by decide
    rw [b] at a
    omega
  · rw [zI_p (by omega), nI_eq (by omega) (by omega)]
    omega
def cc (T : Nat → Nat) (L j : Nat) : Nat := if j < L then T j + 1 else 0
def dd (c : Nat) : Nat := if 49 ≤ c ∧ c ≤ 58 then c - 48 else 0
def num (T : Nat → Nat) (L j : Nat) : Nat :=
  if dd (cc T L j) = 0 then 0 else if dd (cc T L (j + 1)) = 0 then dd (cc T L j) else if dd (cc T L j) = 1 ∨ dd (cc T L (j + 2)) ≠ 0 then 0 else (dd (cc T L j) - 1) * 10 + (dd (cc T L (j + 1)) - 1) + 1
abbrev bt (T : Nat → Nat) (L j : Nat) : Prop := cc T L j ≠ 33 ∧ ¬ (dd (cc T L j) ≠ 0 ∧ 0 < j ∧ dd (cc T L (j - 1)) ≠ 0)
theorem dd_le (c : Nat) : dd c ≤ 10 := by unfold dd; split <;> omega
theorem cc_le {T : Nat → Nat} (hT : ∀ i, T i ≤ 255) (L j : Nat) : cc T L j ≤ 256 := by unfold cc; have := hT j; split <;> omega
theorem num_le (T : Nat → Nat) (L j : Nat) : num T L j ≤ 100 := by
  have h1 := dd_le (cc T L j)
  have h2 := dd_le (cc T L (j + 1))
  unfold num
  repeat' split
  all_goals omega
def chQ (T : Nat → Nat) (L : Nat) (q : Int32) : Int32 := if inR L q then nI (T q.toNatClampNeg) else -1
theorem chQ_nI {T : Nat → Nat} {L j : Nat} (hL : L < 2 ^ 31) (hj : j < 2 ^ 31) : chQ T L (nI j) = zI (cc T L j) := by
  unfold chQ cc
  by_cases h : j < L
  · rw [if_pos (inR_nI hL h), if_pos h, zI_s, nI_clamp hj]
  · rw [if_neg (fun z => z.2 (nI_le (by omega) hj)), if_neg h, zI_0]
theorem chQ_m1 (T : Nat → Nat) (L : Nat) : chQ T L (-1) = zI 0 := by unfold chQ; rw [if_neg (fun z => z.1 (by decide)), zI_0]
def dgQ (T : Nat → Nat) (L : Nat) (q : Int32) : Int32 := if chQ T L q < nI 48 then -1 else if nI 57 < chQ T L q then -1 else chQ T L q - nI 48
theorem dg_zI {x : Nat} (hx : x ≤ 256) : (if zI x < nI 48 then -1 else if nI 57 < zI x then -1 else zI x - nI 48) = zI (dd x) := by
  by_cases h0 : x = 0
  · subst h0; decide
  · rw [zI_p (by omega)]
    unfold dd
    by_cases h1 : x < 49
    · rw [if_pos ((nI_ltI (by omega) (by decide)).mpr (by omega)), if_neg (by omega), zI_0]
    · rw [if_neg (fun z => by have := (nI_ltI (by omega) (by decide)).mp z; omega)]
      by_cases h2 : 58 < x
      · rw [if_pos ((nI_ltI (by decide) (by omega)).mpr (by omega)), if_neg (by omega), zI_0]
      · rw [if_neg (fun z => by have := (nI_ltI (by decide) (by omega)).mp z; omega), if_pos (by omega), pk_sub (by omega), zI_p (by omega)]
        first | rfl | (congr 1; omega) | congr 1
theorem dgQ_nI {T : Nat → Nat} {L j : Nat} (hT : ∀ i, T i ≤ 255) (hL : L < 2 ^ 31) (hj : j < 2 ^ 31) : dgQ T L (nI j) = zI (dd (cc T L j)) := by
  unfold dgQ
  rw [chQ_nI hL hj]
  exact dg_zI (cc_le hT L j)
theorem dgQ_m1 (T : Nat → Nat) (L : Nat) : dgQ T L (-1) = zI 0 := by
  unfold dgQ
  rw [chQ_m1]
  decide
/-- the reader's items: how many, processes, counts -/
abbrev PS : Type := Nat × (Nat → Nat) × (Nat → Nat)
/-- behind a token: what is expected, the items -/
def aft (T : Nat → Nat) (L n E j : Nat) (X : PS) : Nat × PS :=
  if E = 0 then (if num T L j ≠ 0 ∧ num T L j ≤ n then (1, X.1 + 1, va_up X.2.1 X.1 (num T L j - 1), va_up X.2.2 X.1 1) else (4, X))
  else if E = 1 then (if cc T L j = 43 then (2, X) else if cc T L j = 60 then (0, X) else (4, X))
  else if E = 2 then (if 2 ≤ num T L j ∧ num T L j ≤ 31 then (3, X.1, X.2.1, va_up X.2.2 (X.1 - 1) (num T L j - 1)) else (4, X))
  else (if cc T L j = 60 then (0, X) else (4, X))
/-- the reading from offset j on, d characters left: 0 or the error position plus 1, and the items -/
def rdF (T : Nat → Nat) (L n : Nat) : Nat → Nat → Nat → PS → Nat × PS
  | 0, _, E, X => (if E = 0 ∧ 0 < X.1 then 0 else L + 1, X)
  | d + 1, j, E, X => if bt T L j then (if (aft T L n E j X).1 = 4 then (j + 1, (aft T L n E j X).2) else rdF T L n d (j + 1) (aft T L n E j X).1 (aft T L n E j X).2) else rdF T L n d (j + 1) E X
/-- places enough: an item takes two characters -/
def pOKs (E j : Nat) (X : PS) : Prop := E ≤ 3 ∧ (E = 0 → 2 * X.1 ≤ j) ∧ (E ≠ 0 → 2 * X.1 ≤ j + 1 ∧ 1 ≤ X.1)
theorem pOKs_w {E j k : Nat} {X : PS} (h : pOKs E j X) (hk : j ≤ k) : pOKs E k X := ⟨h.1, fun a => by have := h.2.1 a; omega, fun a => by have := h.2.2 a; omega⟩
theorem pOKs_aft {T : Nat → Nat} {L n E j : Nat} {X : PS} (h : pOKs E j X) (h4 : (aft T L n E j X).1 ≠ 4) : pOKs (aft T L n E j X).1 (j + 1) (aft T L n E j X).2 := by
  obtain ⟨h1, h2, h3⟩ := h
  unfold aft at h4 ⊢
  by_cases e0 : E = 0
  · simp only [e0, if_true] at h4 ⊢
    have := h2 e0
    split at h4
    · rename_i c
      rw [if_pos c]
      exact ⟨(by decide : 1 ≤ 3), fun a => absurd a (by decide : ¬ (1 = 0)), fun _ => ⟨by show 2 * (X.1 + 1) ≤ _; omega, by show 1 ≤ X.1 + 1; omega⟩⟩
    · exact absurd rfl h4
  · have h3' := h3 e0
    simp only [e0, if_false] at h4 ⊢
    by_cases e1 : E = 1
    · simp only [e1, if_true] at h4 ⊢
      split at h4
      · rename_i c
        rw [if_pos c]
        exact ⟨(by decide : 2 ≤ 3), fun a => absurd a (by decide : ¬ (2 = 0)), fun _ => ⟨by show 2 * X.1 ≤ _; omega, h3'.2⟩⟩
      · rename_i c
        rw [if_neg c]
        split at h4
        · rename_i c2
          rw [if_pos c2]
          exact ⟨(by decide : 0 ≤ 3), fun _ => by show 2 * X.1 ≤ _; omega, fun a => absurd rfl a⟩
        · exact absurd rfl h4
    · simp only [e1, if_false] at h4 ⊢
      by_cases e2 : E = 2
      · simp only [e2, if_true] at h4 ⊢
        split at h4
        · rename_i c
          rw [if_pos c]
          exact ⟨by show 3 ≤ 3; decide, fun a => absurd a (by show ¬ 3 = 0; decide), fun _ => ⟨by show 2 * X.1 ≤ _; omega, h3'.2⟩⟩
        · exact absurd rfl h4
      · simp only [e2, if_false] at h4 ⊢
        split at h4
        · rename_i c
          rw [if_pos c]
          exact ⟨(by decide : 0 ≤ 3), fun _ => by show 2 * X.1 ≤ _; omega, fun a => absurd rfl a⟩
        · exact absurd rfl h4
/-- the items executed, from the i-th on -/
def exS (X : PS) : Nat → Nat → (Nat → Nat) → (Nat → Nat)
  | 0, _, S => S
  | d + 1, i, S => exS X d (i + 1) (runS (X.2.2 i) S (X.2.1 i))
def exN (X : PS) : Nat → Nat → (Nat → Nat) → Nat
  | 0, _, _ => 0
  | d + 1, i, S => runN (X.2.2 i) S (X.2.1 i) + exN X d (i + 1) (runS (X.2.2 i) S (X.2.1 i))
