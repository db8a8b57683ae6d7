/-! ===== the model, whole: its world in a state ===== -/
abbrev mcore (ca : Nat → ClassId) (m : Nat) (r : Nat → Nat) (g : Nat → Int32) (s h z b T : Nat → Nat) (fR fQ fD fP fB : Nat → Int32) (t F : Nat → Nat) (P : Nat → Int32) (O : Nat → Nat) : va_W :=
  [(m, .inr (4, mF r g)), (r 1, .inl (ca 0, 38, .inl (rwN s))), (r 2, .inl (ca 0, 304, .inl (rwN h))), (r 4, .inl (ca 0, 76, .inl (rwN z))), (r 5, .inl (ca 3, 2, .inl (rwN b))), (r 6, .inl (ca 0, 80, .inl (rwN T))), (r 17, .inl (ca 0, 4001, .inl fR)), (r 18, .inl (ca 0, 4001, .inl fQ)), (r 19, .inl (ca 0, 4001, .inl fD)), (r 20, .inl (ca 0, 4001, .inl fP)), (r 21, .inl (ca 0, 4001, .inl fB)), (r 23, .inl (ca 0, 8192, .inl (rwN t))), (r 30, .inl (ca 0, 30, .inl (rwN F))), (r 31, .inl (ca 0, 48, .inl P)), (r 33, .inl (ca 3, 1331, .inl (rwN O)))]
def hisOK (n : Nat) (U : Nat → Nat → Nat) (h : Nat → Nat) : Prop := ∀ i, i < n → ∀ j, j < 38 → h (38 * i + j) = mS (U i) j
def sloOK (b : Nat → Nat) (V : Nat → Nat → Nat) (z : Nat → Nat) : Prop := ∀ j, j < 2 → b j ≠ 0 → ∀ k, k < 38 → z (38 * j + k) = mS (V j) k
/-- the model's object in the state -/
def MI (ca : Nat → ClassId) (m : Nat) (S : Nat → Nat) (n : Nat) (U : Nat → Nat → Nat) (b : Nat → Nat) (V : Nat → Nat → Nat) (L : Nat) (T : Nat → Nat) (e : Nat) (W : va_W) : Prop :=
  ∃ (r : Nat → Nat) (g : Nat → Int32) (s h z : Nat → Nat) (fR fQ fD fP fB : Nat → Int32) (t F : Nat → Nat) (P : Nat → Int32) (O : Nat → Nat), W = mcore ca m r g s h z b T fR fQ fD fP fB t F P O ∧ MR s S ∧ g 3 = nI n ∧ g 7 = nI L ∧ g 24 = nI e ∧ hisOK n U h ∧ sloOK b V z ∧ (∀ o, O o < 2 ^ 31) ∧ (e = 1 → TDm (BF S) (S 1) g F P)
theorem TD_scr {B : BL} {n : Nat} {g g2 : Nat → Int32} {F : Nat → Nat} {P : Nat → Int32} (h : TDm B n g F P) (hs : scr g g2) : TDm B n g2 F P := by
  have k : ∀ i, 22 ≤ i → g2 i = g i := fun i hi => hs i (Or.inr (Or.inr hi))
  obtain ⟨h1, h2, h3, h4, h5, h6, h7, h8⟩ := h
  exact ⟨(k 24 (by decide)).trans h1, (k 25 (by decide)).trans h2, (k 26 (by decide)).trans h3, (k 27 (by decide)).trans h4, (k 28 (by decide)).trans h5, (k 29 (by decide)).trans h6, h7, by rw [k 32 (by decide)]; exact h8⟩
theorem TD_22 {B : BL} {n : Nat} {g g2 : Nat → Int32} {F : Nat → Nat} {P : Nat → Int32} (h : TDm B n g F P) (k : ∀ i, 23 ≤ i → g2 i = g i) : TDm B n g2 F P := by
  obtain ⟨h1, h2, h3, h4, h5, h6, h7, h8⟩ := h
  exact ⟨(k 24 (by decide)).trans h1, (k 25 (by decide)).trans h2, (k 26 (by decide)).trans h3, (k 27 (by decide)).trans h4, (k 28 (by decide)).trans h5, (k 29 (by decide)).trans h6, h7, by rw [k 32 (by decide)]; exact h8⟩
theorem his_kp {n : Nat} {U : Nat → Nat → Nat} {s h S : Nat → Nat} (hn : n ≤ 8) (hs : MR s S) (hh : hisOK n U h) : hisOK (kpN n) (kU n U S) (kpH n s h) := fun i hi j hj => by
  unfold kpH kU
  unfold kpN at hi
  by_cases e : n = 8
  · rw [if_pos e] at hi
    rw [if_pos e, if_pos e]
    unfold kp2
    by_cases c : i = 7
    · subst c
      rw [if_pos rfl, if_pos (by omega), show 38 * 7 + j - 38 * 7 = j by omega]
      exact hs j hj
    · rw [if_neg c, if_neg (by omega)]
      unfold kp1
      rw [if_pos (by omega), show 38 + (38 * i + j) = 38 * (i + 1) + j by omega]
      exact hh (i + 1) (by omega) j hj
  · rw [if_neg e] at hi
    rw [if_neg e, if_neg e]
    unfold kp2
    by_cases c : i = n
    · subst c
      rw [if_pos rfl, if_pos (by omega), show 38 * i + j - 38 * i = j by omega]
      exact hs j hj
    · rw [if_neg c, if_neg (by omega)]
      exact hh i (by omega) j hj
theorem slo_sv {b : Nat → Nat} {V : Nat → Nat → Nat} {z s S : Nat → Nat} {j : Nat} (hj : j < 2) (hs : MR s S) (hz : sloOK b V z) : sloOK (va_up b j 1) (va_up V j S) (kp2 s z (38 * j) 38) := fun i hi hb k hk => by
  unfold kp2
  by_cases c : i = j
  · subst c
    rw [va_up_self, if_pos (by omega), show 38 * i + k - 38 * i = k by omega]
    exact hs k hk
  · rw [va_up_ne _ _ c] at hb ⊢
    rw [if_neg (by omega)]
    exact hz i hi hb k hk

set_option maxHeartbeats 2000000 in
set_option maxRecDepth 20000 in
theorem y_nameCount (l : Launch) (D : va_G) (ca : Nat → ClassId) (m : Nat) (S : Nat → Nat) (n : Nat) (U : Nat → Nat → Nat) (b : Nat → Nat) (V : Nat → Nat → Nat) (L : Nat) (T : Nat → Nat) (e : Nat) (hσ : SG S n U b V L T e) (W : va_W) (hI : MI ca m S n U b V L T e W) : UP l D ca yX6_nameCount wsX6_nameCount 1 20 0 0 W [.ref m] (fun v W1 => v = some (.int (nI (nmS S))) ∧ MI ca m S n U b V L T e W1) := by
  obtain ⟨r, g, s, h, z, fR, fQ, fD, fP, fB, t, F, P, O, rfl, hs, h3, h7, h24, hh, hz, hO, hT⟩ := hI
  refine UP.core (c_X6_nameCount l D ca m r g s S hs hσ.1) (mcore ca m r g s h z b T fR fQ fD fP fB t F P O) [(r 2, .inl (ca 0, 304, .inl (rwN h))), (r 4, .inl (ca 0, 76, .inl (rwN z))), (r 5, .inl (ca 3, 2, .inl (rwN b))), (r 6, .inl (ca 0, 80, .inl (rwN T))), (r 17, .inl (ca 0, 4001, .inl fR)), (r 18, .inl (ca 0, 4001, .inl fQ)), (r 19, .inl (ca 0, 4001, .inl fD)), (r 20, .inl (ca 0, 4001, .inl fP)), (r 21, .inl (ca 0, 4001, .inl fB)), (r 23, .inl (ca 0, 8192, .inl (rwN t))), (r 30, .inl (ca 0, 30, .inl (rwN F))), (r 31, .inl (ca 0, 48, .inl P)), (r 33, .inl (ca 3, 1331, .inl (rwN O)))] [0, 1] [2, 3, 4, 5, 6, 7, 8, 9, 10, 11, 12, 13, 14] rfl rfl (by decide) (by decide) [] ?_
  rintro v W1 ⟨rfl, g2, hsc, rfl⟩
  exact ⟨(mcore ca m r g2 s h z b T fR fQ fD fP fB t F P O), [13, 14, 0, 1, 2, 3, 4, 5, 6, 7, 8, 9, 10, 11, 12], by decide, rfl, rfl, ⟨r, g2, s, h, z, fR, fQ, fD, fP, fB, t, F, P, O, rfl, hs, (hsc 3 (Or.inl rfl)).trans h3, (hsc 7 (Or.inr (Or.inl rfl))).trans h7, (hsc 24 (Or.inr (Or.inr (by decide)))).trans h24, hh, hz, hO, fun z1 => TD_scr (hT z1) hsc⟩⟩

set_option maxHeartbeats 2000000 in
set_option maxRecDepth 20000 in
theorem y_processCount (l : Launch) (D : va_G) (ca : Nat → ClassId) (m : Nat) (S : Nat → Nat) (n : Nat) (U : Nat → Nat → Nat) (b : Nat → Nat) (V : Nat → Nat → Nat) (L : Nat) (T : Nat → Nat) (e : Nat) (hσ : SG S n U b V L T e) (W : va_W) (hI : MI ca m S n U b V L T e W) : UP l D ca yX6_processCount wsX6_processCount 0 0 0 0 W [.ref m] (fun v W1 => v = some (.int (nI (S 1))) ∧ MI ca m S n U b V L T e W1) := by
  obtain ⟨r, g, s, h, z, fR, fQ, fD, fP, fB, t, F, P, O, rfl, hs, h3, h7, h24, hh, hz, hO, hT⟩ := hI
  refine UP.core (c_X6_processCount l D ca m r g s S hs hσ.1) (mcore ca m r g s h z b T fR fQ fD fP fB t F P O) [(r 2, .inl (ca 0, 304, .inl (rwN h))), (r 4, .inl (ca 0, 76, .inl (rwN z))), (r 5, .inl (ca 3, 2, .inl (rwN b))), (r 6, .inl (ca 0, 80, .inl (rwN T))), (r 17, .inl (ca 0, 4001, .inl fR)), (r 18, .inl (ca 0, 4001, .inl fQ)), (r 19, .inl (ca 0, 4001, .inl fD)), (r 20, .inl (ca 0, 4001, .inl fP)), (r 21, .inl (ca 0, 4001, .inl fB)), (r 23, .inl (ca 0, 8192, .inl (rwN t))), (r 30, .inl (ca 0, 30, .inl (rwN F))), (r 31, .inl (ca 0, 48, .inl P)), (r 33, .inl (ca 3, 1331, .inl (rwN O)))] [0, 1] [2, 3, 4, 5, 6, 7, 8, 9, 10, 11, 12, 13, 14] rfl rfl (by decide) (by decide) [] ?_
  rintro v W1 ⟨rfl, g2, hsc, rfl⟩
  exact ⟨(mcore ca m r g2 s h z b T fR fQ fD fP fB t F P O), [13, 14, 0, 1, 2, 3, 4, 5, 6, 7, 8, 9, 10, 11, 12], by decide, rfl, rfl, ⟨r, g2, s, h, z, fR, fQ, fD, fP, fB, t, F, P, O, rfl, hs, (hsc 3 (Or.inl rfl)).trans h3, (hsc 7 (Or.inr (Or.inl rfl))).trans h7, (hsc 24 (Or.inr (Or.inr (by decide)))).trans h24, hh, hz, hO, fun z1 => TD_scr (hT z1) hsc⟩⟩

set_option maxHeartbeats 2000000 in
set_option maxRecDepth 20000 in
theorem y_status (l : Launch) (D : va_G) (ca : Nat → ClassId) (m : Nat) (S : Nat → Nat) (n : Nat) (U : Nat → Nat → Nat) (b : Nat → Nat) (V : Nat → Nat → Nat) (L : Nat) (T : Nat → Nat) (e : Nat) (hσ : SG S n U b V L T e) (q : Int32) (W : va_W) (hI : MI ca m S n U b V L T e W) : UP l D ca yX6_status wsX6_status 2 43 0 0 W [.ref m, .int q] (fun v W1 => v = some (.int (ansP (S 1) q (fun j => nI (stC (S 3) j)))) ∧ MI ca m S n U b V L T e W1) := by
  obtain ⟨r, g, s, h, z, fR, fQ, fD, fP, fB, t, F, P, O, rfl, hs, h3, h7, h24, hh, hz, hO, hT⟩ := hI
  refine UP.core (c_X6_status l D ca m r g s S hs hσ.1 q) (mcore ca m r g s h z b T fR fQ fD fP fB t F P O) [(r 2, .inl (ca 0, 304, .inl (rwN h))), (r 4, .inl (ca 0, 76, .inl (rwN z))), (r 5, .inl (ca 3, 2, .inl (rwN b))), (r 6, .inl (ca 0, 80, .inl (rwN T))), (r 17, .inl (ca 0, 4001, .inl fR)), (r 18, .inl (ca 0, 4001, .inl fQ)), (r 19, .inl (ca 0, 4001, .inl fD)), (r 20, .inl (ca 0, 4001, .inl fP)), (r 21, .inl (ca 0, 4001, .inl fB)), (r 23, .inl (ca 0, 8192, .inl (rwN t))), (r 30, .inl (ca 0, 30, .inl (rwN F))), (r 31, .inl (ca 0, 48, .inl P)), (r 33, .inl (ca 3, 1331, .inl (rwN O)))] [0, 1] [2, 3, 4, 5, 6, 7, 8, 9, 10, 11, 12, 13, 14] rfl rfl (by decide) (by decide) [] ?_
  rintro v W1 ⟨rfl, g2, hsc, rfl⟩
  exact ⟨(mcore ca m r g2 s h z b T fR fQ fD fP fB t F P O), [13, 14, 0, 1, 2, 3, 4, 5, 6, 7, 8, 9, 10, 11, 12], by decide, rfl, rfl, ⟨r, g2, s, h, z, fR, fQ, fD, fP, fB, t, F, P, O, rfl, hs, (hsc 3 (Or.inl rfl)).trans h3, (hsc 7 (Or.inr (Or.inl rfl))).trans h7, (hsc 24 (Or.inr (Or.inr (by decide)))).trans h24, hh, hz, hO, fun z1 => TD_scr (hT z1) hsc⟩⟩

set_option maxHeartbeats 2000000 in
set_option maxRecDepth 20000 in
theorem y_splitterOf (l : Launch) (D : va_G) (ca : Nat → ClassId) (m : Nat) (S : Nat → Nat) (n : Nat) (U : Nat → Nat → Nat) (b : Nat → Nat) (V : Nat → Nat → Nat) (L : Nat) (T : Nat → Nat) (e : Nat) (hσ : SG S n U b V L T e) (q : Int32) (W : va_W) (hI : MI ca m S n U b V L T e W) : UP l D ca yX6_splitterOf wsX6_splitterOf 2 43 0 0 W [.ref m, .int q] (fun v W1 => v = some (.int (ansP (S 1) q (fun j => if stC (S 3) j = 2 then -9 else nI (spC (S 3) j)))) ∧ MI ca m S n U b V L T e W1) := by
  obtain ⟨r, g, s, h, z, fR, fQ, fD, fP, fB, t, F, P, O, rfl, hs, h3, h7, h24, hh, hz, hO, hT⟩ := hI
  refine UP.core (c_X6_splitterOf l D ca m r g s S hs hσ.1 q) (mcore ca m r g s h z b T fR fQ fD fP fB t F P O) [(r 2, .inl (ca 0, 304, .inl (rwN h))), (r 4, .inl (ca 0, 76, .inl (rwN z))), (r 5, .inl (ca 3, 2, .inl (rwN b))), (r 6, .inl (ca 0, 80, .inl (rwN T))), (r 17, .inl (ca 0, 4001, .inl fR)), (r 18, .inl (ca 0, 4001, .inl fQ)), (r 19, .inl (ca 0, 4001, .inl fD)), (r 20, .inl (ca 0, 4001, .inl fP)), (r 21, .inl (ca 0, 4001, .inl fB)), (r 23, .inl (ca 0, 8192, .inl (rwN t))), (r 30, .inl (ca 0, 30, .inl (rwN F))), (r 31, .inl (ca 0, 48, .inl P)), (r 33, .inl (ca 3, 1331, .inl (rwN O)))] [0, 1] [2, 3, 4, 5, 6, 7, 8, 9, 10, 11, 12, 13, 14] rfl rfl (by decide) (by decide) [] ?_
  rintro v W1 ⟨rfl, g2, hsc, rfl⟩
  exact ⟨(mcore ca m r g2 s h z b T fR fQ fD fP fB t F P O), [13, 14, 0, 1, 2, 3, 4, 5, 6, 7, 8, 9, 10, 11, 12], by decide, rfl, rfl, ⟨r, g2, s, h, z, fR, fQ, fD, fP, fB, t, F, P, O, rfl, hs, (hsc 3 (Or.inl rfl)).trans h3, (hsc 7 (Or.inr (Or.inl rfl))).trans h7, (hsc 24 (Or.inr (Or.inr (by decide)))).trans h24, hh, hz, hO, fun z1 => TD_scr (hT z1) hsc⟩⟩

set_option maxHeartbeats 2000000 in
set_option maxRecDepth 20000 in
theorem y_phaseOf (l : Launch) (D : va_G) (ca : Nat → ClassId) (m : Nat) (S : Nat → Nat) (n : Nat) (U : Nat → Nat → Nat) (b : Nat → Nat) (V : Nat → Nat → Nat) (L : Nat) (T : Nat → Nat) (e : Nat) (hσ : SG S n U b V L T e) (q : Int32) (W : va_W) (hI : MI ca m S n U b V L T e W) : UP l D ca yX6_phaseOf wsX6_phaseOf 2 43 0 0 W [.ref m, .int q] (fun v W1 => v = some (.int (ansP (S 1) q (fun j => if stC (S 3) j = 2 then -9 else nI (phC (S 3) j)))) ∧ MI ca m S n U b V L T e W1) := by
  obtain ⟨r, g, s, h, z, fR, fQ, fD, fP, fB, t, F, P, O, rfl, hs, h3, h7, h24, hh, hz, hO, hT⟩ := hI
  refine UP.core (c_X6_phaseOf l D ca m r g s S hs hσ.1 q) (mcore ca m r g s h z b T fR fQ fD fP fB t F P O) [(r 2, .inl (ca 0, 304, .inl (rwN h))), (r 4, .inl (ca 0, 76, .inl (rwN z))), (r 5, .inl (ca 3, 2, .inl (rwN b))), (r 6, .inl (ca 0, 80, .inl (rwN T))), (r 17, .inl (ca 0, 4001, .inl fR)), (r 18, .inl (ca 0, 4001, .inl fQ)), (r 19, .inl (ca 0, 4001, .inl fD)), (r 20, .inl (ca 0, 4001, .inl fP)), (r 21, .inl (ca 0, 4001, .inl fB)), (r 23, .inl (ca 0, 8192, .inl (rwN t))), (r 30, .inl (ca 0, 30, .inl (rwN F))), (r 31, .inl (ca 0, 48, .inl P)), (r 33, .inl (ca 3, 1331, .inl (rwN O)))] [0, 1] [2, 3, 4, 5, 6, 7, 8, 9, 10, 11, 12, 13, 14] rfl rfl (by decide) (by decide) [] ?_
  rintro v W1 ⟨rfl, g2, hsc, rfl⟩
  exact ⟨(mcore ca m r g2 s h z b T fR fQ fD fP fB t F P O), [13, 14, 0, 1, 2, 3, 4, 5, 6, 7, 8, 9, 10, 11, 12], by decide, rfl, rfl, ⟨r, g2, s, h, z, fR, fQ, fD, fP, fB, t, F, P, O, rfl, hs, (hsc 3 (Or.inl rfl)).trans h3, (hsc 7 (Or.inr (Or.inl rfl))).trans h7, (hsc 24 (Or.inr (Or.inr (by decide)))).trans h24, hh, hz, hO, fun z1 => TD_scr (hT z1) hsc⟩⟩

set_option maxHeartbeats 2000000 in
set_option maxRecDepth 20000 in
theorem y_stepsOf (l : Launch) (D : va_G) (ca : Nat → ClassId) (m : Nat) (S : Nat → Nat) (n : Nat) (U : Nat → Nat → Nat) (b : Nat → Nat) (V : Nat → Nat → Nat) (L : Nat) (T : Nat → Nat) (e : Nat) (hσ : SG S n U b V L T e) (q : Int32) (W : va_W) (hI : MI ca m S n U b V L T e W) : UP l D ca yX6_stepsOf wsX6_stepsOf 2 43 0 0 W [.ref m, .int q] (fun v W1 => v = some (.int (ansP (S 1) q (fun j => nI (cnt (S 4) j)))) ∧ MI ca m S n U b V L T e W1) := by
  obtain ⟨r, g, s, h, z, fR, fQ, fD, fP, fB, t, F, P, O, rfl, hs, h3, h7, h24, hh, hz, hO, hT⟩ := hI
  refine UP.core (c_X6_stepsOf l D ca m r g s S hs hσ.1 q) (mcore ca m r g s h z b T fR fQ fD fP fB t F P O) [(r 2, .inl (ca 0, 304, .inl (rwN h))), (r 4, .inl (ca 0, 76, .inl (rwN z))), (r 5, .inl (ca 3, 2, .inl (rwN b))), (r 6, .inl (ca 0, 80, .inl (rwN T))), (r 17, .inl (ca 0, 4001, .inl fR)), (r 18, .inl (ca 0, 4001, .inl fQ)), (r 19, .inl (ca 0, 4001, .inl fD)), (r 20, .inl (ca 0, 4001, .inl fP)), (r 21, .inl (ca 0, 4001, .inl fB)), (r 23, .inl (ca 0, 8192, .inl (rwN t))), (r 30, .inl (ca 0, 30, .inl (rwN F))), (r 31, .inl (ca 0, 48, .inl P)), (r 33, .inl (ca 3, 1331, .inl (rwN O)))] [0, 1] [2, 3, 4, 5, 6, 7, 8, 9, 10, 11, 12, 13, 14] rfl rfl (by decide) (by decide) [] ?_
  rintro v W1 ⟨rfl, g2, hsc, rfl⟩
  exact ⟨(mcore ca m r g2 s h z b T fR fQ fD fP fB t F P O), [13, 14, 0, 1, 2, 3, 4, 5, 6, 7, 8, 9, 10, 11, 12], by decide, rfl, rfl, ⟨r, g2, s, h, z, fR, fQ, fD, fP, fB, t, F, P, O, rfl, hs, (hsc 3 (Or.inl rfl)).trans h3, (hsc 7 (Or.inr (Or.inl rfl))).trans h7, (hsc 24 (Or.inr (Or.inr (by decide)))).trans h24, hh, hz, hO, fun z1 => TD_scr (hT z1) hsc⟩⟩

set_option maxHeartbeats 2000000 in
set_option maxRecDepth 20000 in
theorem y_owner (l : Launch) (D : va_G) (ca : Nat → ClassId) (m : Nat) (S : Nat → Nat) (n : Nat) (U : Nat → Nat → Nat) (b : Nat → Nat) (V : Nat → Nat → Nat) (L : Nat) (T : Nat → Nat) (e : Nat) (hσ : SG S n U b V L T e) (q : Int32) (W : va_W) (hI : MI ca m S n U b V L T e W) : UP l D ca yX6_owner wsX6_owner 2 43 0 0 W [.ref m, .int q] (fun v W1 => v = some (.int (ansP (nmS S) q (fun j => ownV (S 3) j))) ∧ MI ca m S n U b V L T e W1) := by
  obtain ⟨r, g, s, h, z, fR, fQ, fD, fP, fB, t, F, P, O, rfl, hs, h3, h7, h24, hh, hz, hO, hT⟩ := hI
  refine UP.core (c_X6_owner l D ca m r g s S hs hσ.1 q) (mcore ca m r g s h z b T fR fQ fD fP fB t F P O) [(r 2, .inl (ca 0, 304, .inl (rwN h))), (r 4, .inl (ca 0, 76, .inl (rwN z))), (r 5, .inl (ca 3, 2, .inl (rwN b))), (r 6, .inl (ca 0, 80, .inl (rwN T))), (r 17, .inl (ca 0, 4001, .inl fR)), (r 18, .inl (ca 0, 4001, .inl fQ)), (r 19, .inl (ca 0, 4001, .inl fD)), (r 20, .inl (ca 0, 4001, .inl fP)), (r 21, .inl (ca 0, 4001, .inl fB)), (r 23, .inl (ca 0, 8192, .inl (rwN t))), (r 30, .inl (ca 0, 30, .inl (rwN F))), (r 31, .inl (ca 0, 48, .inl P)), (r 33, .inl (ca 3, 1331, .inl (rwN O)))] [0, 1] [2, 3, 4, 5, 6, 7, 8, 9, 10, 11, 12, 13, 14] rfl rfl (by decide) (by decide) [] ?_
  rintro v W1 ⟨rfl, g2, hsc, rfl⟩
  exact ⟨(mcore ca m r g2 s h z b T fR fQ fD fP fB t F P O), [13, 14, 0, 1, 2, 3, 4, 5, 6, 7, 8, 9, 10, 11, 12], by decide, rfl, rfl, ⟨r, g2, s, h, z, fR, fQ, fD, fP, fB, t, F, P, O, rfl, hs, (hsc 3 (Or.inl rfl)).trans h3, (hsc 7 (Or.inr (Or.inl rfl))).trans h7, (hsc 24 (Or.inr (Or.inr (by decide)))).trans h24, hh, hz, hO, fun z1 => TD_scr (hT z1) hsc⟩⟩

set_option maxHeartbeats 2000000 in
set_option maxRecDepth 20000 in
theorem y_door (l : Launch) (D : va_G) (ca : Nat → ClassId) (m : Nat) (S : Nat → Nat) (n : Nat) (U : Nat → Nat → Nat) (b : Nat → Nat) (V : Nat → Nat → Nat) (L : Nat) (T : Nat → Nat) (e : Nat) (hσ : SG S n U b V L T e) (q : Int32) (W : va_W) (hI : MI ca m S n U b V L T e W) : UP l D ca yX6_door wsX6_door 2 43 0 0 W [.ref m, .int q] (fun v W1 => v = some (.int (ansP (nmS S) q (fun j => nI (doC (S 3) j)))) ∧ MI ca m S n U b V L T e W1) := by
  obtain ⟨r, g, s, h, z, fR, fQ, fD, fP, fB, t, F, P, O, rfl, hs, h3, h7, h24, hh, hz, hO, hT⟩ := hI
  refine UP.core (c_X6_door l D ca m r g s S hs hσ.1 q) (mcore ca m r g s h z b T fR fQ fD fP fB t F P O) [(r 2, .inl (ca 0, 304, .inl (rwN h))), (r 4, .inl (ca 0, 76, .inl (rwN z))), (r 5, .inl (ca 3, 2, .inl (rwN b))), (r 6, .inl (ca 0, 80, .inl (rwN T))), (r 17, .inl (ca 0, 4001, .inl fR)), (r 18, .inl (ca 0, 4001, .inl fQ)), (r 19, .inl (ca 0, 4001, .inl fD)), (r 20, .inl (ca 0, 4001, .inl fP)), (r 21, .inl (ca 0, 4001, .inl fB)), (r 23, .inl (ca 0, 8192, .inl (rwN t))), (r 30, .inl (ca 0, 30, .inl (rwN F))), (r 31, .inl (ca 0, 48, .inl P)), (r 33, .inl (ca 3, 1331, .inl (rwN O)))] [0, 1] [2, 3, 4, 5, 6, 7, 8, 9, 10, 11, 12, 13, 14] rfl rfl (by decide) (by decide) [] ?_
  rintro v W1 ⟨rfl, g2, hsc, rfl⟩
  exact ⟨(mcore ca m r g2 s h z b T fR fQ fD fP fB t F P O), [13, 14, 0, 1, 2, 3, 4, 5, 6, 7, 8, 9, 10, 11, 12], by decide, rfl, rfl, ⟨r, g2, s, h, z, fR, fQ, fD, fP, fB, t, F, P, O, rfl, hs, (hsc 3 (Or.inl rfl)).trans h3, (hsc 7 (Or.inr (Or.inl rfl))).trans h7, (hsc 24 (Or.inr (Or.inr (by decide)))).trans h24, hh, hz, hO, fun z1 => TD_scr (hT z1) hsc⟩⟩

set_option maxHeartbeats 2000000 in
set_option maxRecDepth 20000 in
theorem y_entered (l : Launch) (D : va_G) (ca : Nat → ClassId) (m : Nat) (S : Nat → Nat) (n : Nat) (U : Nat → Nat → Nat) (b : Nat → Nat) (V : Nat → Nat → Nat) (L : Nat) (T : Nat → Nat) (e : Nat) (hσ : SG S n U b V L T e) (q : Int32) (W : va_W) (hI : MI ca m S n U b V L T e W) : UP l D ca yX6_entered wsX6_entered 2 43 0 0 W [.ref m, .int q] (fun v W1 => v = some (.int (ansP (nmS S) q (fun j => nI (cnt (S 5) j)))) ∧ MI ca m S n U b V L T e W1) := by
  obtain ⟨r, g, s, h, z, fR, fQ, fD, fP, fB, t, F, P, O, rfl, hs, h3, h7, h24, hh, hz, hO, hT⟩ := hI
  refine UP.core (c_X6_entered l D ca m r g s S hs hσ.1 q) (mcore ca m r g s h z b T fR fQ fD fP fB t F P O) [(r 2, .inl (ca 0, 304, .inl (rwN h))), (r 4, .inl (ca 0, 76, .inl (rwN z))), (r 5, .inl (ca 3, 2, .inl (rwN b))), (r 6, .inl (ca 0, 80, .inl (rwN T))), (r 17, .inl (ca 0, 4001, .inl fR)), (r 18, .inl (ca 0, 4001, .inl fQ)), (r 19, .inl (ca 0, 4001, .inl fD)), (r 20, .inl (ca 0, 4001, .inl fP)), (r 21, .inl (ca 0, 4001, .inl fB)), (r 23, .inl (ca 0, 8192, .inl (rwN t))), (r 30, .inl (ca 0, 30, .inl (rwN F))), (r 31, .inl (ca 0, 48, .inl P)), (r 33, .inl (ca 3, 1331, .inl (rwN O)))] [0, 1] [2, 3, 4, 5, 6, 7, 8, 9, 10, 11, 12, 13, 14] rfl rfl (by decide) (by decide) [] ?_
  rintro v W1 ⟨rfl, g2, hsc, rfl⟩
  exact ⟨(mcore ca m r g2 s h z b T fR fQ fD fP fB t F P O), [13, 14, 0, 1, 2, 3, 4, 5, 6, 7, 8, 9, 10, 11, 12], by decide, rfl, rfl, ⟨r, g2, s, h, z, fR, fQ, fD, fP, fB, t, F, P, O, rfl, hs, (hsc 3 (Or.inl rfl)).trans h3, (hsc 7 (Or.inr (Or.inl rfl))).trans h7, (hsc 24 (Or.inr (Or.inr (by decide)))).trans h24, hh, hz, hO, fun z1 => TD_scr (hT z1) hsc⟩⟩

set_option maxHeartbeats 2000000 in
set_option maxRecDepth 20000 in
theorem y_soloSteps (l : Launch) (D : va_G) (ca : Nat → ClassId) (m : Nat) (S : Nat → Nat) (n : Nat) (U : Nat → Nat → Nat) (b : Nat → Nat) (V : Nat → Nat → Nat) (L : Nat) (T : Nat → Nat) (e : Nat) (hσ : SG S n U b V L T e) (q : Int32) (W : va_W) (hI : MI ca m S n U b V L T e W) : UP l D ca yX6_soloSteps wsX6_soloSteps 4 93 0 0 W [.ref m, .int q] (fun v W1 => v = some (.int (ansP (S 1) q (fun j => nI (runN 16 S j)))) ∧ MI ca m S n U b V L T e W1) := by
  obtain ⟨r, g, s, h, z, fR, fQ, fD, fP, fB, t, F, P, O, rfl, hs, h3, h7, h24, hh, hz, hO, hT⟩ := hI
  refine UP.core (c_X6_soloSteps l D ca m r g s S hs hσ.1 q) (mcore ca m r g s h z b T fR fQ fD fP fB t F P O) [(r 2, .inl (ca 0, 304, .inl (rwN h))), (r 4, .inl (ca 0, 76, .inl (rwN z))), (r 5, .inl (ca 3, 2, .inl (rwN b))), (r 6, .inl (ca 0, 80, .inl (rwN T))), (r 17, .inl (ca 0, 4001, .inl fR)), (r 18, .inl (ca 0, 4001, .inl fQ)), (r 19, .inl (ca 0, 4001, .inl fD)), (r 20, .inl (ca 0, 4001, .inl fP)), (r 21, .inl (ca 0, 4001, .inl fB)), (r 23, .inl (ca 0, 8192, .inl (rwN t))), (r 30, .inl (ca 0, 30, .inl (rwN F))), (r 31, .inl (ca 0, 48, .inl P)), (r 33, .inl (ca 3, 1331, .inl (rwN O)))] [0, 1] [2, 3, 4, 5, 6, 7, 8, 9, 10, 11, 12, 13, 14] rfl rfl (by decide) (by decide) [] ?_
  rintro v W1 ⟨rfl, g2, hsc, rfl⟩
  exact ⟨(mcore ca m r g2 s h z b T fR fQ fD fP fB t F P O), [13, 14, 0, 1, 2, 3, 4, 5, 6, 7, 8, 9, 10, 11, 12], by decide, rfl, rfl, ⟨r, g2, s, h, z, fR, fQ, fD, fP, fB, t, F, P, O, rfl, hs, (hsc 3 (Or.inl rfl)).trans h3, (hsc 7 (Or.inr (Or.inl rfl))).trans h7, (hsc 24 (Or.inr (Or.inr (by decide)))).trans h24, hh, hz, hO, fun z1 => TD_scr (hT z1) hsc⟩⟩

set_option maxHeartbeats 2000000 in
set_option maxRecDepth 20000 in
theorem y_soloName (l : Launch) (D : va_G) (ca : Nat → ClassId) (m : Nat) (S : Nat → Nat) (n : Nat) (U : Nat → Nat → Nat) (b : Nat → Nat) (V : Nat → Nat → Nat) (L : Nat) (T : Nat → Nat) (e : Nat) (hσ : SG S n U b V L T e) (q : Int32) (W : va_W) (hI : MI ca m S n U b V L T e W) : UP l D ca yX6_soloName wsX6_soloName 4 93 0 0 W [.ref m, .int q] (fun v W1 => v = some (.int (ansP (S 1) q (fun j => nmC (runS 16 S j 3) j))) ∧ MI ca m S n U b V L T e W1) := by
  obtain ⟨r, g, s, h, z, fR, fQ, fD, fP, fB, t, F, P, O, rfl, hs, h3, h7, h24, hh, hz, hO, hT⟩ := hI
  refine UP.core (c_X6_soloName l D ca m r g s S hs hσ.1 q) (mcore ca m r g s h z b T fR fQ fD fP fB t F P O) [(r 2, .inl (ca 0, 304, .inl (rwN h))), (r 4, .inl (ca 0, 76, .inl (rwN z))), (r 5, .inl (ca 3, 2, .inl (rwN b))), (r 6, .inl (ca 0, 80, .inl (rwN T))), (r 17, .inl (ca 0, 4001, .inl fR)), (r 18, .inl (ca 0, 4001, .inl fQ)), (r 19, .inl (ca 0, 4001, .inl fD)), (r 20, .inl (ca 0, 4001, .inl fP)), (r 21, .inl (ca 0, 4001, .inl fB)), (r 23, .inl (ca 0, 8192, .inl (rwN t))), (r 30, .inl (ca 0, 30, .inl (rwN F))), (r 31, .inl (ca 0, 48, .inl P)), (r 33, .inl (ca 3, 1331, .inl (rwN O)))] [0, 1] [2, 3, 4, 5, 6, 7, 8, 9, 10, 11, 12, 13, 14] rfl rfl (by decide) (by decide) [] ?_
  rintro v W1 ⟨rfl, g2, hsc, rfl⟩
  exact ⟨(mcore ca m r g2 s h z b T fR fQ fD fP fB t F P O), [13, 14, 0, 1, 2, 3, 4, 5, 6, 7, 8, 9, 10, 11, 12], by decide, rfl, rfl, ⟨r, g2, s, h, z, fR, fQ, fD, fP, fB, t, F, P, O, rfl, hs, (hsc 3 (Or.inl rfl)).trans h3, (hsc 7 (Or.inr (Or.inl rfl))).trans h7, (hsc 24 (Or.inr (Or.inr (by decide)))).trans h24, hh, hz, hO, fun z1 => TD_scr (hT z1) hsc⟩⟩

set_option maxHeartbeats 2000000 in
set_option maxRecDepth 20000 in
theorem y_left (l : Launch) (D : va_G) (ca : Nat → ClassId) (m : Nat) (S : Nat → Nat) (n : Nat) (U : Nat → Nat → Nat) (b : Nat → Nat) (V : Nat → Nat → Nat) (L : Nat) (T : Nat → Nat) (e : Nat) (hσ : SG S n U b V L T e) (q y : Int32) (W : va_W) (hI : MI ca m S n U b V L T e W) : UP l D ca yX6_left wsX6_left 2 43 0 0 W [.ref m, .int q, .int y] (fun v W1 => v = some (.int (ansP (nmS S) q (fun j => if y = 0 then nI (cnt (S 6) j) else if y = nI 1 then nI (cnt (S 7) j) else -1))) ∧ MI ca m S n U b V L T e W1) := by
  obtain ⟨r, g, s, h, z, fR, fQ, fD, fP, fB, t, F, P, O, rfl, hs, h3, h7, h24, hh, hz, hO, hT⟩ := hI
  refine UP.core (c_X6_left l D ca m r g s S hs hσ.1 q y) (mcore ca m r g s h z b T fR fQ fD fP fB t F P O) [(r 2, .inl (ca 0, 304, .inl (rwN h))), (r 4, .inl (ca 0, 76, .inl (rwN z))), (r 5, .inl (ca 3, 2, .inl (rwN b))), (r 6, .inl (ca 0, 80, .inl (rwN T))), (r 17, .inl (ca 0, 4001, .inl fR)), (r 18, .inl (ca 0, 4001, .inl fQ)), (r 19, .inl (ca 0, 4001, .inl fD)), (r 20, .inl (ca 0, 4001, .inl fP)), (r 21, .inl (ca 0, 4001, .inl fB)), (r 23, .inl (ca 0, 8192, .inl (rwN t))), (r 30, .inl (ca 0, 30, .inl (rwN F))), (r 31, .inl (ca 0, 48, .inl P)), (r 33, .inl (ca 3, 1331, .inl (rwN O)))] [0, 1] [2, 3, 4, 5, 6, 7, 8, 9, 10, 11, 12, 13, 14] rfl rfl (by decide) (by decide) [] ?_
  rintro v W1 ⟨rfl, g2, hsc, rfl⟩
  exact ⟨(mcore ca m r g2 s h z b T fR fQ fD fP fB t F P O), [13, 14, 0, 1, 2, 3, 4, 5, 6, 7, 8, 9, 10, 11, 12], by decide, rfl, rfl, ⟨r, g2, s, h, z, fR, fQ, fD, fP, fB, t, F, P, O, rfl, hs, (hsc 3 (Or.inl rfl)).trans h3, (hsc 7 (Or.inr (Or.inl rfl))).trans h7, (hsc 24 (Or.inr (Or.inr (by decide)))).trans h24, hh, hz, hO, fun z1 => TD_scr (hT z1) hsc⟩⟩

set_option maxHeartbeats 2000000 in
set_option maxRecDepth 20000 in
theorem y_configure (l : Launch) (D : va_G) (ca : Nat → ClassId) (m : Nat) (S : Nat → Nat) (n : Nat) (U : Nat → Nat → Nat) (b : Nat → Nat) (V : Nat → Nat → Nat) (L : Nat) (T : Nat → Nat) (e : Nat) (hσ : SG S n U b V L T e) (a b2 c2 : Int32) (W : va_W) (hI : MI ca m S n U b V L T e W) : UP l D ca yX6_configure wsX6_configure 1 24 0 0 W [.ref m, .int a, .int b2, .int c2] (fun v W1 => v = some (.int (ansCfg a b2 c2)) ∧ ((cfgOK a b2 c2 ∧ MI ca m (begS a.toNatClampNeg b2.toNatClampNeg c2.toNatClampNeg) (kpN n) (kU n U S) b V L T 0 W1) ∨ (¬ (cfgOK a b2 c2) ∧ MI ca m S n U b V L T e W1))) := by
  obtain ⟨r, g, s, h, z, fR, fQ, fD, fP, fB, t, F, P, O, rfl, hs, h3, h7, h24, hh, hz, hO, hT⟩ := hI
  refine UP.core (c_X6_configure l D ca m r g s S hs hσ.1 h n hσ.2.1 h3 a b2 c2) (mcore ca m r g s h z b T fR fQ fD fP fB t F P O) [(r 4, .inl (ca 0, 76, .inl (rwN z))), (r 5, .inl (ca 3, 2, .inl (rwN b))), (r 6, .inl (ca 0, 80, .inl (rwN T))), (r 17, .inl (ca 0, 4001, .inl fR)), (r 18, .inl (ca 0, 4001, .inl fQ)), (r 19, .inl (ca 0, 4001, .inl fD)), (r 20, .inl (ca 0, 4001, .inl fP)), (r 21, .inl (ca 0, 4001, .inl fB)), (r 23, .inl (ca 0, 8192, .inl (rwN t))), (r 30, .inl (ca 0, 30, .inl (rwN F))), (r 31, .inl (ca 0, 48, .inl P)), (r 33, .inl (ca 3, 1331, .inl (rwN O)))] [0, 1, 2] [3, 4, 5, 6, 7, 8, 9, 10, 11, 12, 13, 14] rfl rfl (by decide) (by decide) [] ?_
  rintro v W1 ⟨rfl, ⟨hok, g2, s2, hsc, hs2, rfl⟩ | ⟨hno, g2, hsc, rfl⟩⟩
  · exact ⟨(mcore ca m r g2 s2 ((kpH n s h)) z b T fR fQ fD fP fB t F P O), [12, 13, 14, 0, 1, 2, 3, 4, 5, 6, 7, 8, 9, 10, 11], by decide, rfl, rfl, Or.inl ⟨hok, ⟨r, g2, s2, kpH n s h, z, fR, fQ, fD, fP, fB, t, F, P, O, rfl, hs2, hsc.1, hsc.2.1.trans h7, hsc.2.2, his_kp hσ.2.1 hs hh, hz, hO, fun z1 => absurd z1 (by decide)⟩⟩⟩
  · exact ⟨(mcore ca m r g2 s h z b T fR fQ fD fP fB t F P O), [12, 13, 14, 0, 1, 2, 3, 4, 5, 6, 7, 8, 9, 10, 11], by decide, rfl, rfl, Or.inr ⟨hno, ⟨r, g2, s, h, z, fR, fQ, fD, fP, fB, t, F, P, O, rfl, hs, (hsc 3 (Or.inl rfl)).trans h3, (hsc 7 (Or.inr (Or.inl rfl))).trans h7, (hsc 24 (Or.inr (Or.inr (by decide)))).trans h24, hh, hz, hO, fun z1 => TD_scr (hT z1) hsc⟩⟩⟩

set_option maxHeartbeats 2000000 in
set_option maxRecDepth 20000 in
theorem y_step (l : Launch) (D : va_G) (ca : Nat → ClassId) (m : Nat) (S : Nat → Nat) (n : Nat) (U : Nat → Nat → Nat) (b : Nat → Nat) (V : Nat → Nat → Nat) (L : Nat) (T : Nat → Nat) (e : Nat) (hσ : SG S n U b V L T e) (q : Int32) (W : va_W) (hI : MI ca m S n U b V L T e W) : UP l D ca yX6_step wsX6_step 4 93 0 0 W [.ref m, .int q] (fun v W1 => v = some (.int (ansStep S q)) ∧ ((stepOK S q ∧ MI ca m (advS S q.toNatClampNeg) (kpN n) (kU n U S) b V L T 0 W1) ∨ (¬ (stepOK S q) ∧ MI ca m S n U b V L T e W1))) := by
  obtain ⟨r, g, s, h, z, fR, fQ, fD, fP, fB, t, F, P, O, rfl, hs, h3, h7, h24, hh, hz, hO, hT⟩ := hI
  refine UP.core (c_X6_step l D ca m r g s S hs hσ.1 h n hσ.2.1 h3 q) (mcore ca m r g s h z b T fR fQ fD fP fB t F P O) [(r 4, .inl (ca 0, 76, .inl (rwN z))), (r 5, .inl (ca 3, 2, .inl (rwN b))), (r 6, .inl (ca 0, 80, .inl (rwN T))), (r 17, .inl (ca 0, 4001, .inl fR)), (r 18, .inl (ca 0, 4001, .inl fQ)), (r 19, .inl (ca 0, 4001, .inl fD)), (r 20, .inl (ca 0, 4001, .inl fP)), (r 21, .inl (ca 0, 4001, .inl fB)), (r 23, .inl (ca 0, 8192, .inl (rwN t))), (r 30, .inl (ca 0, 30, .inl (rwN F))), (r 31, .inl (ca 0, 48, .inl P)), (r 33, .inl (ca 3, 1331, .inl (rwN O)))] [0, 1, 2] [3, 4, 5, 6, 7, 8, 9, 10, 11, 12, 13, 14] rfl rfl (by decide) (by decide) [] ?_
  rintro v W1 ⟨rfl, ⟨hok, g2, s2, hsc, hs2, rfl⟩ | ⟨hno, g2, hsc, rfl⟩⟩
  · exact ⟨(mcore ca m r g2 s2 ((kpH n s h)) z b T fR fQ fD fP fB t F P O), [12, 13, 14, 0, 1, 2, 3, 4, 5, 6, 7, 8, 9, 10, 11], by decide, rfl, rfl, Or.inl ⟨hok, ⟨r, g2, s2, kpH n s h, z, fR, fQ, fD, fP, fB, t, F, P, O, rfl, hs2, hsc.1, hsc.2.1.trans h7, hsc.2.2, his_kp hσ.2.1 hs hh, hz, hO, fun z1 => absurd z1 (by decide)⟩⟩⟩
  · exact ⟨(mcore ca m r g2 s h z b T fR fQ fD fP fB t F P O), [12, 13, 14, 0, 1, 2, 3, 4, 5, 6, 7, 8, 9, 10, 11], by decide, rfl, rfl, Or.inr ⟨hno, ⟨r, g2, s, h, z, fR, fQ, fD, fP, fB, t, F, P, O, rfl, hs, (hsc 3 (Or.inl rfl)).trans h3, (hsc 7 (Or.inr (Or.inl rfl))).trans h7, (hsc 24 (Or.inr (Or.inr (by decide)))).trans h24, hh, hz, hO, fun z1 => TD_scr (hT z1) hsc⟩⟩⟩

set_option maxHeartbeats 2000000 in
set_option maxRecDepth 20000 in
theorem y_crash (l : Launch) (D : va_G) (ca : Nat → ClassId) (m : Nat) (S : Nat → Nat) (n : Nat) (U : Nat → Nat → Nat) (b : Nat → Nat) (V : Nat → Nat → Nat) (L : Nat) (T : Nat → Nat) (e : Nat) (hσ : SG S n U b V L T e) (q : Int32) (W : va_W) (hI : MI ca m S n U b V L T e W) : UP l D ca yX6_crash wsX6_crash 2 43 0 0 W [.ref m, .int q] (fun v W1 => v = some (.int (ansCrash S q)) ∧ ((stepOK S q ∧ MI ca m (crsS S q.toNatClampNeg) (kpN n) (kU n U S) b V L T 0 W1) ∨ (¬ (stepOK S q) ∧ MI ca m S n U b V L T e W1))) := by
  obtain ⟨r, g, s, h, z, fR, fQ, fD, fP, fB, t, F, P, O, rfl, hs, h3, h7, h24, hh, hz, hO, hT⟩ := hI
  refine UP.core (c_X6_crash l D ca m r g s S hs hσ.1 h n hσ.2.1 h3 q) (mcore ca m r g s h z b T fR fQ fD fP fB t F P O) [(r 4, .inl (ca 0, 76, .inl (rwN z))), (r 5, .inl (ca 3, 2, .inl (rwN b))), (r 6, .inl (ca 0, 80, .inl (rwN T))), (r 17, .inl (ca 0, 4001, .inl fR)), (r 18, .inl (ca 0, 4001, .inl fQ)), (r 19, .inl (ca 0, 4001, .inl fD)), (r 20, .inl (ca 0, 4001, .inl fP)), (r 21, .inl (ca 0, 4001, .inl fB)), (r 23, .inl (ca 0, 8192, .inl (rwN t))), (r 30, .inl (ca 0, 30, .inl (rwN F))), (r 31, .inl (ca 0, 48, .inl P)), (r 33, .inl (ca 3, 1331, .inl (rwN O)))] [0, 1, 2] [3, 4, 5, 6, 7, 8, 9, 10, 11, 12, 13, 14] rfl rfl (by decide) (by decide) [] ?_
  rintro v W1 ⟨rfl, ⟨hok, g2, s2, hsc, hs2, rfl⟩ | ⟨hno, g2, hsc, rfl⟩⟩
  · exact ⟨(mcore ca m r g2 s2 ((kpH n s h)) z b T fR fQ fD fP fB t F P O), [12, 13, 14, 0, 1, 2, 3, 4, 5, 6, 7, 8, 9, 10, 11], by decide, rfl, rfl, Or.inl ⟨hok, ⟨r, g2, s2, kpH n s h, z, fR, fQ, fD, fP, fB, t, F, P, O, rfl, hs2, hsc.1, hsc.2.1.trans h7, hsc.2.2, his_kp hσ.2.1 hs hh, hz, hO, fun z1 => absurd z1 (by decide)⟩⟩⟩
  · exact ⟨(mcore ca m r g2 s h z b T fR fQ fD fP fB t F P O), [12, 13, 14, 0, 1, 2, 3, 4, 5, 6, 7, 8, 9, 10, 11], by decide, rfl, rfl, Or.inr ⟨hno, ⟨r, g2, s, h, z, fR, fQ, fD, fP, fB, t, F, P, O, rfl, hs, (hsc 3 (Or.inl rfl)).trans h3, (hsc 7 (Or.inr (Or.inl rfl))).trans h7, (hsc 24 (Or.inr (Or.inr (by decide)))).trans h24, hh, hz, hO, fun z1 => TD_scr (hT z1) hsc⟩⟩⟩

set_option maxHeartbeats 2000000 in
set_option maxRecDepth 20000 in
theorem y_undo (l : Launch) (D : va_G) (ca : Nat → ClassId) (m : Nat) (S : Nat → Nat) (n : Nat) (U : Nat → Nat → Nat) (b : Nat → Nat) (V : Nat → Nat → Nat) (L : Nat) (T : Nat → Nat) (e : Nat) (hσ : SG S n U b V L T e) (W : va_W) (hI : MI ca m S n U b V L T e W) : UP l D ca yX6_undo wsX6_undo 0 0 0 0 W [.ref m] (fun v W1 => (n = 0 ∧ v = some (.int (-2)) ∧ MI ca m S n U b V L T e W1) ∨ (0 < n ∧ v = some (.int (nI (n - 1))) ∧ MI ca m (U (n - 1)) (n - 1) U b V L T 0 W1)) := by
  obtain ⟨r, g, s, h, z, fR, fQ, fD, fP, fB, t, F, P, O, rfl, hs, h3, h7, h24, hh, hz, hO, hT⟩ := hI
  refine UP.core (c_X6_undo l D ca m r g s h n hσ.2.1 h3) (mcore ca m r g s h z b T fR fQ fD fP fB t F P O) [(r 4, .inl (ca 0, 76, .inl (rwN z))), (r 5, .inl (ca 3, 2, .inl (rwN b))), (r 6, .inl (ca 0, 80, .inl (rwN T))), (r 17, .inl (ca 0, 4001, .inl fR)), (r 18, .inl (ca 0, 4001, .inl fQ)), (r 19, .inl (ca 0, 4001, .inl fD)), (r 20, .inl (ca 0, 4001, .inl fP)), (r 21, .inl (ca 0, 4001, .inl fB)), (r 23, .inl (ca 0, 8192, .inl (rwN t))), (r 30, .inl (ca 0, 30, .inl (rwN F))), (r 31, .inl (ca 0, 48, .inl P)), (r 33, .inl (ca 3, 1331, .inl (rwN O)))] [0, 1, 2] [3, 4, 5, 6, 7, 8, 9, 10, 11, 12, 13, 14] rfl rfl (by decide) (by decide) [] ?_
  rintro v W1 (⟨h0, rfl, g2, hsc, rfl⟩ | ⟨h0, rfl, g2, hsc, rfl⟩)
  · exact ⟨(mcore ca m r g2 s h z b T fR fQ fD fP fB t F P O), [12, 13, 14, 0, 1, 2, 3, 4, 5, 6, 7, 8, 9, 10, 11], by decide, rfl, Or.inl ⟨h0, rfl, ⟨r, g2, s, h, z, fR, fQ, fD, fP, fB, t, F, P, O, rfl, hs, (hsc 3 (Or.inl rfl)).trans h3, (hsc 7 (Or.inr (Or.inl rfl))).trans h7, (hsc 24 (Or.inr (Or.inr (by decide)))).trans h24, hh, hz, hO, fun z1 => TD_scr (hT z1) hsc⟩⟩⟩
  · exact ⟨(mcore ca m r g2 ((ldR h (38 * (n - 1)) s 38)) h z b T fR fQ fD fP fB t F P O), [12, 13, 14, 0, 1, 2, 3, 4, 5, 6, 7, 8, 9, 10, 11], by decide, rfl, Or.inr ⟨h0, rfl, ⟨r, g2, ldR h (38 * (n - 1)) s 38, h, z, fR, fQ, fD, fP, fB, t, F, P, O, rfl, ldR_MR (hh (n - 1) (by omega)), hsc.1, hsc.2.1.trans h7, hsc.2.2, fun i hi => hh i (by omega), hz, hO, fun z1 => absurd z1 (by decide)⟩⟩⟩

set_option maxHeartbeats 2000000 in
set_option maxRecDepth 20000 in
theorem y_append (l : Launch) (D : va_G) (ca : Nat → ClassId) (m : Nat) (S : Nat → Nat) (n : Nat) (U : Nat → Nat → Nat) (b : Nat → Nat) (V : Nat → Nat → Nat) (L : Nat) (T : Nat → Nat) (e : Nat) (hσ : SG S n U b V L T e) (q : Int32) (W : va_W) (hI : MI ca m S n U b V L T e W) : UP l D ca yX6_append wsX6_append 1 22 0 0 W [.ref m, .int q] (fun v W1 => v = some (.int (ansApp L q)) ∧ (((chrOK q ∧ L < 80) ∧ MI ca m S n U b V (L + 1) (va_up T L q.toNatClampNeg) e W1) ∨ (¬ (chrOK q ∧ L < 80) ∧ MI ca m S n U b V L T e W1))) := by
  obtain ⟨r, g, s, h, z, fR, fQ, fD, fP, fB, t, F, P, O, rfl, hs, h3, h7, h24, hh, hz, hO, hT⟩ := hI
  refine UP.core (c_X6_append l D ca m r g L h7 T hσ.2.2.2.2.1 q) (mcore ca m r g s h z b T fR fQ fD fP fB t F P O) [(r 1, .inl (ca 0, 38, .inl (rwN s))), (r 2, .inl (ca 0, 304, .inl (rwN h))), (r 4, .inl (ca 0, 76, .inl (rwN z))), (r 5, .inl (ca 3, 2, .inl (rwN b))), (r 17, .inl (ca 0, 4001, .inl fR)), (r 18, .inl (ca 0, 4001, .inl fQ)), (r 19, .inl (ca 0, 4001, .inl fD)), (r 20, .inl (ca 0, 4001, .inl fP)), (r 21, .inl (ca 0, 4001, .inl fB)), (r 23, .inl (ca 0, 8192, .inl (rwN t))), (r 30, .inl (ca 0, 30, .inl (rwN F))), (r 31, .inl (ca 0, 48, .inl P)), (r 33, .inl (ca 3, 1331, .inl (rwN O)))] [0, 5] [1, 2, 3, 4, 6, 7, 8, 9, 10, 11, 12, 13, 14] rfl rfl (by decide) (by decide) [] ?_
  rintro v W1 ⟨rfl, ⟨hc, g2, hsc, rfl⟩ | ⟨hc, g2, hsc, rfl⟩⟩
  · exact ⟨(mcore ca m r g2 s h z b ((va_up T L q.toNatClampNeg)) fR fQ fD fP fB t F P O), [13, 0, 1, 2, 3, 14, 4, 5, 6, 7, 8, 9, 10, 11, 12], by decide, rfl, rfl, Or.inl ⟨hc, ⟨r, g2, s, h, z, fR, fQ, fD, fP, fB, t, F, P, O, rfl, hs, hsc.1.trans h3, hsc.2.1, (hsc.2.2 24 (by decide)).trans h24, hh, hz, hO, fun z1 => TD_22 (hT z1) (fun i hi => hsc.2.2 i (by omega))⟩⟩⟩
  · exact ⟨(mcore ca m r g2 s h z b T fR fQ fD fP fB t F P O), [13, 0, 1, 2, 3, 14, 4, 5, 6, 7, 8, 9, 10, 11, 12], by decide, rfl, rfl, Or.inr ⟨hc, ⟨r, g2, s, h, z, fR, fQ, fD, fP, fB, t, F, P, O, rfl, hs, (hsc 3 (Or.inl rfl)).trans h3, (hsc 7 (Or.inr (Or.inl rfl))).trans h7, (hsc 24 (Or.inr (Or.inr (by decide)))).trans h24, hh, hz, hO, fun z1 => TD_scr (hT z1) hsc⟩⟩⟩

set_option maxHeartbeats 2000000 in
set_option maxRecDepth 20000 in
theorem y_clearText (l : Launch) (D : va_G) (ca : Nat → ClassId) (m : Nat) (S : Nat → Nat) (n : Nat) (U : Nat → Nat → Nat) (b : Nat → Nat) (V : Nat → Nat → Nat) (L : Nat) (T : Nat → Nat) (e : Nat) (hσ : SG S n U b V L T e) (W : va_W) (hI : MI ca m S n U b V L T e W) : UP l D ca yX6_clearText wsX6_clearText 0 0 0 0 W [.ref m] (fun v W1 => v = some (.int (nI L)) ∧ MI ca m S n U b V 0 T e W1) := by
  obtain ⟨r, g, s, h, z, fR, fQ, fD, fP, fB, t, F, P, O, rfl, hs, h3, h7, h24, hh, hz, hO, hT⟩ := hI
  refine UP.core (c_X6_clearText l D ca m r g L h7) (mcore ca m r g s h z b T fR fQ fD fP fB t F P O) [(r 1, .inl (ca 0, 38, .inl (rwN s))), (r 2, .inl (ca 0, 304, .inl (rwN h))), (r 4, .inl (ca 0, 76, .inl (rwN z))), (r 5, .inl (ca 3, 2, .inl (rwN b))), (r 6, .inl (ca 0, 80, .inl (rwN T))), (r 17, .inl (ca 0, 4001, .inl fR)), (r 18, .inl (ca 0, 4001, .inl fQ)), (r 19, .inl (ca 0, 4001, .inl fD)), (r 20, .inl (ca 0, 4001, .inl fP)), (r 21, .inl (ca 0, 4001, .inl fB)), (r 23, .inl (ca 0, 8192, .inl (rwN t))), (r 30, .inl (ca 0, 30, .inl (rwN F))), (r 31, .inl (ca 0, 48, .inl P)), (r 33, .inl (ca 3, 1331, .inl (rwN O)))] [0] [1, 2, 3, 4, 5, 6, 7, 8, 9, 10, 11, 12, 13, 14] rfl rfl (by decide) (by decide) [] ?_
  rintro v W1 ⟨rfl, g2, hsc, rfl⟩
  exact ⟨(mcore ca m r g2 s h z b T fR fQ fD fP fB t F P O), [14, 0, 1, 2, 3, 4, 5, 6, 7, 8, 9, 10, 11, 12, 13], by decide, rfl, rfl, ⟨r, g2, s, h, z, fR, fQ, fD, fP, fB, t, F, P, O, rfl, hs, hsc.1.trans h3, hsc.2.1, (hsc.2.2 24 (by decide)).trans h24, hh, hz, hO, fun z1 => TD_22 (hT z1) (fun i hi => hsc.2.2 i (by omega))⟩⟩

set_option maxHeartbeats 2000000 in
set_option maxRecDepth 20000 in
theorem y_runText (l : Launch) (D : va_G) (ca : Nat → ClassId) (m : Nat) (S : Nat → Nat) (n : Nat) (U : Nat → Nat → Nat) (b : Nat → Nat) (V : Nat → Nat → Nat) (L : Nat) (T : Nat → Nat) (e : Nat) (hσ : SG S n U b V L T e) (P0 K0 : Nat → Nat) (W : va_W) (hI : MI ca m S n U b V L T e W) : UP l D ca yX6_runText wsX6_runText 6 140 0 0 W [.ref m] (fun v W1 => ((rdF T L (S 1) L 0 0 (0, P0, K0)).1 = 0 → v = some (.int (nI (exN (rdF T L (S 1) L 0 0 (0, P0, K0)).2 (rdF T L (S 1) L 0 0 (0, P0, K0)).2.1 0 S))) ∧ MI ca m (exS (rdF T L (S 1) L 0 0 (0, P0, K0)).2 (rdF T L (S 1) L 0 0 (0, P0, K0)).2.1 0 S) (kpN n) (kU n U S) b V 0 T 0 W1) ∧ (¬ (rdF T L (S 1) L 0 0 (0, P0, K0)).1 = 0 → v = some (.int (-10 - nI ((rdF T L (S 1) L 0 0 (0, P0, K0)).1 - 1))) ∧ MI ca m S n U b V L T e W1)) := by
  obtain ⟨r, g, s, h, z, fR, fQ, fD, fP, fB, t, F, P, O, rfl, hs, h3, h7, h24, hh, hz, hO, hT⟩ := hI
  refine UP.core (c_X6_runText l D ca m r g L h7 T hσ.2.2.2.2.1 hσ.2.2.2.2.2.1 s S hs hσ.1 h n hσ.2.1 h3 (0, P0, K0) rfl) (mcore ca m r g s h z b T fR fQ fD fP fB t F P O) [(r 4, .inl (ca 0, 76, .inl (rwN z))), (r 5, .inl (ca 3, 2, .inl (rwN b))), (r 17, .inl (ca 0, 4001, .inl fR)), (r 18, .inl (ca 0, 4001, .inl fQ)), (r 19, .inl (ca 0, 4001, .inl fD)), (r 20, .inl (ca 0, 4001, .inl fP)), (r 21, .inl (ca 0, 4001, .inl fB)), (r 23, .inl (ca 0, 8192, .inl (rwN t))), (r 30, .inl (ca 0, 30, .inl (rwN F))), (r 31, .inl (ca 0, 48, .inl P)), (r 33, .inl (ca 3, 1331, .inl (rwN O)))] [0, 1, 2, 5] [3, 4, 6, 7, 8, 9, 10, 11, 12, 13, 14] rfl rfl (by decide) (by decide) [] ?_
  rintro v W1 ⟨hy, hn⟩
  by_cases hR : (rdF T L (S 1) L 0 0 (0, P0, K0)).1 = 0
  · obtain ⟨rfl, g2, s2, k3, k7, k24, hs2, rfl⟩ := hy hR
    exact ⟨(mcore ca m r g2 s2 ((kpH n s h)) z b T fR fQ fD fP fB t F P O), [11, 12, 13, 0, 1, 14, 2, 3, 4, 5, 6, 7, 8, 9, 10], by decide, rfl, fun _ => ⟨rfl, ⟨r, g2, s2, kpH n s h, z, fR, fQ, fD, fP, fB, t, F, P, O, rfl, hs2, k3, k7, k24, his_kp hσ.2.1 hs hh, hz, hO, fun z1 => absurd z1 (by decide)⟩⟩, fun z1 => absurd hR z1⟩
  · obtain ⟨rfl, g2, hsc, rfl⟩ := hn hR
    exact ⟨(mcore ca m r g2 s h z b T fR fQ fD fP fB t F P O), [11, 12, 13, 0, 1, 14, 2, 3, 4, 5, 6, 7, 8, 9, 10], by decide, rfl, fun z1 => absurd z1 hR, fun _ => ⟨rfl, ⟨r, g2, s, h, z, fR, fQ, fD, fP, fB, t, F, P, O, rfl, hs, (hsc 3 (Or.inl rfl)).trans h3, (hsc 7 (Or.inr (Or.inl rfl))).trans h7, (hsc 24 (Or.inr (Or.inr (by decide)))).trans h24, hh, hz, hO, fun z1 => TD_scr (hT z1) hsc⟩⟩⟩

set_option maxHeartbeats 2000000 in
set_option maxRecDepth 20000 in
theorem y_save (l : Launch) (D : va_G) (ca : Nat → ClassId) (m : Nat) (S : Nat → Nat) (n : Nat) (U : Nat → Nat → Nat) (b : Nat → Nat) (V : Nat → Nat → Nat) (L : Nat) (T : Nat → Nat) (e : Nat) (hσ : SG S n U b V L T e) (q : Int32) (W : va_W) (hI : MI ca m S n U b V L T e W) : UP l D ca yX6_save wsX6_save 2 43 0 0 W [.ref m, .int q] (fun v W1 => (¬ inR 2 q ∧ v = some (.int (-1)) ∧ MI ca m S n U b V L T e W1) ∨ (∃ j, j < 2 ∧ q = nI j ∧ v = some (.int (nI (runC (S 3) (S 1)))) ∧ MI ca m S n U (va_up b j 1) (va_up V j S) L T e W1)) := by
  obtain ⟨r, g, s, h, z, fR, fQ, fD, fP, fB, t, F, P, O, rfl, hs, h3, h7, h24, hh, hz, hO, hT⟩ := hI
  refine UP.core (c_X6_save l D ca m r g s S hs hσ.1 z b q) (mcore ca m r g s h z b T fR fQ fD fP fB t F P O) [(r 2, .inl (ca 0, 304, .inl (rwN h))), (r 6, .inl (ca 0, 80, .inl (rwN T))), (r 17, .inl (ca 0, 4001, .inl fR)), (r 18, .inl (ca 0, 4001, .inl fQ)), (r 19, .inl (ca 0, 4001, .inl fD)), (r 20, .inl (ca 0, 4001, .inl fP)), (r 21, .inl (ca 0, 4001, .inl fB)), (r 23, .inl (ca 0, 8192, .inl (rwN t))), (r 30, .inl (ca 0, 30, .inl (rwN F))), (r 31, .inl (ca 0, 48, .inl P)), (r 33, .inl (ca 3, 1331, .inl (rwN O)))] [0, 1, 3, 4] [2, 5, 6, 7, 8, 9, 10, 11, 12, 13, 14] rfl rfl (by decide) (by decide) [] ?_
  rintro v W1 (⟨hq, rfl, g2, hsc, rfl⟩ | ⟨j, hj, hq, rfl, g2, hsc, rfl⟩)
  · exact ⟨(mcore ca m r g2 s h z b T fR fQ fD fP fB t F P O), [11, 12, 0, 13, 14, 1, 2, 3, 4, 5, 6, 7, 8, 9, 10], by decide, rfl, Or.inl ⟨hq, rfl, ⟨r, g2, s, h, z, fR, fQ, fD, fP, fB, t, F, P, O, rfl, hs, (hsc 3 (Or.inl rfl)).trans h3, (hsc 7 (Or.inr (Or.inl rfl))).trans h7, (hsc 24 (Or.inr (Or.inr (by decide)))).trans h24, hh, hz, hO, fun z1 => TD_scr (hT z1) hsc⟩⟩⟩
  · exact ⟨(mcore ca m r g2 s h ((kp2 s z (38 * j) 38)) ((va_up b j 1)) T fR fQ fD fP fB t F P O), [11, 12, 0, 13, 14, 1, 2, 3, 4, 5, 6, 7, 8, 9, 10], by decide, rfl, Or.inr ⟨j, hj, hq, rfl, ⟨r, g2, s, h, kp2 s z (38 * j) 38, fR, fQ, fD, fP, fB, t, F, P, O, rfl, hs, (hsc 3 (Or.inl rfl)).trans h3, (hsc 7 (Or.inr (Or.inl rfl))).trans h7, (hsc 24 (Or.inr (Or.inr (by decide)))).trans h24, hh, slo_sv hj hs hz, hO, fun z1 => TD_scr (hT z1) hsc⟩⟩⟩

set_option maxHeartbeats 2000000 in
set_option maxRecDepth 20000 in
theorem y_restore (l : Launch) (D : va_G) (ca : Nat → ClassId) (m : Nat) (S : Nat → Nat) (n : Nat) (U : Nat → Nat → Nat) (b : Nat → Nat) (V : Nat → Nat → Nat) (L : Nat) (T : Nat → Nat) (e : Nat) (hσ : SG S n U b V L T e) (q : Int32) (W : va_W) (hI : MI ca m S n U b V L T e W) : UP l D ca yX6_restore wsX6_restore 2 43 0 0 W [.ref m, .int q] (fun v W1 => (¬ inR 2 q ∧ v = some (.int (-1)) ∧ MI ca m S n U b V L T e W1) ∨ (∃ j, j < 2 ∧ q = nI j ∧ ((b j = 0 ∧ v = some (.int (-2)) ∧ MI ca m S n U b V L T e W1) ∨ (b j ≠ 0 ∧ v = some (.int (nI (runC (V j 3) (V j 1)))) ∧ MI ca m (V j) 0 U b V L T 0 W1)))) := by
  obtain ⟨r, g, s, h, z, fR, fQ, fD, fP, fB, t, F, P, O, rfl, hs, h3, h7, h24, hh, hz, hO, hT⟩ := hI
  refine UP.core (c_X6_restore l D ca m r g s z b V (fun j hj => (hσ.2.2.2.1 j hj).1) (fun j hj hb => ⟨hz j hj hb, (hσ.2.2.2.1 j hj).2 hb⟩) q) (mcore ca m r g s h z b T fR fQ fD fP fB t F P O) [(r 2, .inl (ca 0, 304, .inl (rwN h))), (r 6, .inl (ca 0, 80, .inl (rwN T))), (r 17, .inl (ca 0, 4001, .inl fR)), (r 18, .inl (ca 0, 4001, .inl fQ)), (r 19, .inl (ca 0, 4001, .inl fD)), (r 20, .inl (ca 0, 4001, .inl fP)), (r 21, .inl (ca 0, 4001, .inl fB)), (r 23, .inl (ca 0, 8192, .inl (rwN t))), (r 30, .inl (ca 0, 30, .inl (rwN F))), (r 31, .inl (ca 0, 48, .inl P)), (r 33, .inl (ca 3, 1331, .inl (rwN O)))] [0, 1, 3, 4] [2, 5, 6, 7, 8, 9, 10, 11, 12, 13, 14] rfl rfl (by decide) (by decide) [] ?_
  rintro v W1 (⟨hq, rfl, g2, hsc, rfl⟩ | ⟨j, hj, hq, ⟨hb, rfl, g2, hsc, rfl⟩ | ⟨hb, rfl, g2, hsc, rfl⟩⟩)
  · exact ⟨(mcore ca m r g2 s h z b T fR fQ fD fP fB t F P O), [11, 12, 0, 13, 14, 1, 2, 3, 4, 5, 6, 7, 8, 9, 10], by decide, rfl, Or.inl ⟨hq, rfl, ⟨r, g2, s, h, z, fR, fQ, fD, fP, fB, t, F, P, O, rfl, hs, (hsc 3 (Or.inl rfl)).trans h3, (hsc 7 (Or.inr (Or.inl rfl))).trans h7, (hsc 24 (Or.inr (Or.inr (by decide)))).trans h24, hh, hz, hO, fun z1 => TD_scr (hT z1) hsc⟩⟩⟩
  · exact ⟨(mcore ca m r g2 s h z b T fR fQ fD fP fB t F P O), [11, 12, 0, 13, 14, 1, 2, 3, 4, 5, 6, 7, 8, 9, 10], by decide, rfl, Or.inr ⟨j, hj, hq, Or.inl ⟨hb, rfl, ⟨r, g2, s, h, z, fR, fQ, fD, fP, fB, t, F, P, O, rfl, hs, (hsc 3 (Or.inl rfl)).trans h3, (hsc 7 (Or.inr (Or.inl rfl))).trans h7, (hsc 24 (Or.inr (Or.inr (by decide)))).trans h24, hh, hz, hO, fun z1 => TD_scr (hT z1) hsc⟩⟩⟩⟩
  · exact ⟨(mcore ca m r g2 ((ldR z (38 * j) s 38)) h z b T fR fQ fD fP fB t F P O), [11, 12, 0, 13, 14, 1, 2, 3, 4, 5, 6, 7, 8, 9, 10], by decide, rfl, Or.inr ⟨j, hj, hq, Or.inr ⟨hb, rfl, ⟨r, g2, ldR z (38 * j) s 38, h, z, fR, fQ, fD, fP, fB, t, F, P, O, rfl, ldR_MR (hz j hj hb), hsc.1, hsc.2.1.trans h7, hsc.2.2, fun i hi => absurd hi (Nat.not_lt_zero i), hz, hO, fun z1 => absurd z1 (by decide)⟩⟩⟩⟩

set_option maxHeartbeats 2000000 in
set_option maxRecDepth 20000 in
theorem y_explore (l : Launch) (D : va_G) (ca : Nat → ClassId) (m : Nat) (S : Nat → Nat) (n : Nat) (U : Nat → Nat → Nat) (b : Nat → Nat) (V : Nat → Nat → Nat) (L : Nat) (T : Nat → Nat) (e : Nat) (hσ : SG S n U b V L T e) (W : va_W) (hI : MI ca m S n U b V L T e W) : UP l D ca yX6_explore wsX6_explore 4 93 0 0 W [.ref m] (fun v W1 => ((BF S).length ≤ 4000 ∧ v = some (.int (nI (BF S).length)) ∧ MI ca m S n U b V L T 1 W1) ∨ ((BF S).length = 4001 ∧ v = some (.int (-3)) ∧ MI ca m S n U b V L T e W1)) := by
  obtain ⟨r, g, s, h, z, fR, fQ, fD, fP, fB, t, F, P, O, rfl, hs, h3, h7, h24, hh, hz, hO, hT⟩ := hI
  refine UP.core (c_X6_explore l D ca m r g s S hs hσ.1 (BF S) rfl fR fQ fD fP fB t F O P hO) (mcore ca m r g s h z b T fR fQ fD fP fB t F P O) [(r 2, .inl (ca 0, 304, .inl (rwN h))), (r 4, .inl (ca 0, 76, .inl (rwN z))), (r 5, .inl (ca 3, 2, .inl (rwN b))), (r 6, .inl (ca 0, 80, .inl (rwN T)))] [0, 1, 6, 7, 8, 9, 10, 11, 12, 13, 14] [2, 3, 4, 5] rfl rfl (by decide) (by decide) [] ?_
  rintro v W1 (⟨hl, rfl, g2, fR2, fQ2, fD2, fP2, fB2, t2, F2, O2, P2, k3, k7, hTD, hO2, rfl⟩ | ⟨hl, rfl, g2, fR2, fQ2, fD2, fP2, fB2, t2, hsc, rfl⟩)
  · exact ⟨(mcore ca m r g2 s h z b T fR2 fQ2 fD2 fP2 fB2 t2 F2 P2 O2), [4, 5, 0, 1, 2, 3, 6, 7, 8, 9, 10, 11, 12, 13, 14], by decide, rfl, Or.inl ⟨hl, rfl, ⟨r, g2, s, h, z, fR2, fQ2, fD2, fP2, fB2, t2, F2, P2, O2, rfl, hs, k3.trans h3, k7.trans h7, hTD.1, hh, hz, hO2, fun _ => hTD⟩⟩⟩
  · exact ⟨(mcore ca m r g2 s h z b T fR2 fQ2 fD2 fP2 fB2 t2 F P O), [4, 5, 0, 1, 2, 3, 6, 7, 8, 9, 10, 11, 12, 13, 14], by decide, rfl, Or.inr ⟨hl, rfl, ⟨r, g2, s, h, z, fR2, fQ2, fD2, fP2, fB2, t2, F, P, O, rfl, hs, hsc.1.trans h3, hsc.2.1.trans h7, (hsc.2.2 24 (by decide)).trans h24, hh, hz, hO, fun z1 => TD_22 (hT z1) hsc.2.2⟩⟩⟩

set_option maxHeartbeats 2000000 in
set_option maxRecDepth 20000 in
theorem y_finalCount_n (l : Launch) (D : va_G) (ca : Nat → ClassId) (m : Nat) (S : Nat → Nat) (n : Nat) (U : Nat → Nat → Nat) (b : Nat → Nat) (V : Nat → Nat → Nat) (L : Nat) (T : Nat → Nat) (e : Nat) (hσ : SG S n U b V L T e) (he : e = 0) (W : va_W) (hI : MI ca m S n U b V L T e W) : UP l D ca yX6_finalCount wsX6_finalCount 0 0 0 0 W [.ref m] (fun v W1 => v = some (.int (-2)) ∧ MI ca m S n U b V L T e W1) := by
  obtain ⟨r, g, s, h, z, fR, fQ, fD, fP, fB, t, F, P, O, rfl, hs, h3, h7, h24, hh, hz, hO, hT⟩ := hI
  refine UP.core (c_X6_finalCount l D ca m r g e hσ.2.2.2.2.2.2.1 h24 _ rfl) (mcore ca m r g s h z b T fR fQ fD fP fB t F P O) [(r 1, .inl (ca 0, 38, .inl (rwN s))), (r 2, .inl (ca 0, 304, .inl (rwN h))), (r 4, .inl (ca 0, 76, .inl (rwN z))), (r 5, .inl (ca 3, 2, .inl (rwN b))), (r 6, .inl (ca 0, 80, .inl (rwN T))), (r 17, .inl (ca 0, 4001, .inl fR)), (r 18, .inl (ca 0, 4001, .inl fQ)), (r 19, .inl (ca 0, 4001, .inl fD)), (r 20, .inl (ca 0, 4001, .inl fP)), (r 21, .inl (ca 0, 4001, .inl fB)), (r 23, .inl (ca 0, 8192, .inl (rwN t))), (r 30, .inl (ca 0, 30, .inl (rwN F))), (r 31, .inl (ca 0, 48, .inl P)), (r 33, .inl (ca 3, 1331, .inl (rwN O)))] [0] [1, 2, 3, 4, 5, 6, 7, 8, 9, 10, 11, 12, 13, 14] rfl rfl (by decide) (by decide) [] ?_
  rintro v W1 ⟨rfl, g2, hsc, rfl⟩
  exact ⟨(mcore ca m r g2 s h z b T fR fQ fD fP fB t F P O), [14, 0, 1, 2, 3, 4, 5, 6, 7, 8, 9, 10, 11, 12, 13], by decide, rfl, by rw [if_pos he], ⟨r, g2, s, h, z, fR, fQ, fD, fP, fB, t, F, P, O, rfl, hs, (hsc 3 (Or.inl rfl)).trans h3, (hsc 7 (Or.inr (Or.inl rfl))).trans h7, (hsc 24 (Or.inr (Or.inr (by decide)))).trans h24, hh, hz, hO, fun z1 => TD_scr (hT z1) hsc⟩⟩

set_option maxHeartbeats 2000000 in
set_option maxRecDepth 20000 in
theorem y_finalCount_y (l : Launch) (D : va_G) (ca : Nat → ClassId) (m : Nat) (S : Nat → Nat) (n : Nat) (U : Nat → Nat → Nat) (b : Nat → Nat) (V : Nat → Nat → Nat) (L : Nat) (T : Nat → Nat) (e : Nat) (hσ : SG S n U b V L T e) (he : e = 1) (W : va_W) (hI : MI ca m S n U b V L T e W) : UP l D ca yX6_finalCount wsX6_finalCount 0 0 0 0 W [.ref m] (fun v W1 => v = some (.int (nI (fiC (BF S) (S 1) (BF S).length))) ∧ MI ca m S n U b V L T e W1) := by
  obtain ⟨r, g, s, h, z, fR, fQ, fD, fP, fB, t, F, P, O, rfl, hs, h3, h7, h24, hh, hz, hO, hT⟩ := hI
  refine UP.core (c_X6_finalCount l D ca m r g e hσ.2.2.2.2.2.2.1 h24 _ (hT he).2.1) (mcore ca m r g s h z b T fR fQ fD fP fB t F P O) [(r 1, .inl (ca 0, 38, .inl (rwN s))), (r 2, .inl (ca 0, 304, .inl (rwN h))), (r 4, .inl (ca 0, 76, .inl (rwN z))), (r 5, .inl (ca 3, 2, .inl (rwN b))), (r 6, .inl (ca 0, 80, .inl (rwN T))), (r 17, .inl (ca 0, 4001, .inl fR)), (r 18, .inl (ca 0, 4001, .inl fQ)), (r 19, .inl (ca 0, 4001, .inl fD)), (r 20, .inl (ca 0, 4001, .inl fP)), (r 21, .inl (ca 0, 4001, .inl fB)), (r 23, .inl (ca 0, 8192, .inl (rwN t))), (r 30, .inl (ca 0, 30, .inl (rwN F))), (r 31, .inl (ca 0, 48, .inl P)), (r 33, .inl (ca 3, 1331, .inl (rwN O)))] [0] [1, 2, 3, 4, 5, 6, 7, 8, 9, 10, 11, 12, 13, 14] rfl rfl (by decide) (by decide) [] ?_
  rintro v W1 ⟨rfl, g2, hsc, rfl⟩
  exact ⟨(mcore ca m r g2 s h z b T fR fQ fD fP fB t F P O), [14, 0, 1, 2, 3, 4, 5, 6, 7, 8, 9, 10, 11, 12, 13], by decide, rfl, by rw [if_neg (by omega)], ⟨r, g2, s, h, z, fR, fQ, fD, fP, fB, t, F, P, O, rfl, hs, (hsc 3 (Or.inl rfl)).trans h3, (hsc 7 (Or.inr (Or.inl rfl))).trans h7, (hsc 24 (Or.inr (Or.inr (by decide)))).trans h24, hh, hz, hO, fun z1 => TD_scr (hT z1) hsc⟩⟩

set_option maxHeartbeats 2000000 in
set_option maxRecDepth 20000 in
theorem y_violationCount_n (l : Launch) (D : va_G) (ca : Nat → ClassId) (m : Nat) (S : Nat → Nat) (n : Nat) (U : Nat → Nat → Nat) (b : Nat → Nat) (V : Nat → Nat → Nat) (L : Nat) (T : Nat → Nat) (e : Nat) (hσ : SG S n U b V L T e) (he : e = 0) (W : va_W) (hI : MI ca m S n U b V L T e W) : UP l D ca yX6_violationCount wsX6_violationCount 0 0 0 0 W [.ref m] (fun v W1 => v = some (.int (-2)) ∧ MI ca m S n U b V L T e W1) := by
  obtain ⟨r, g, s, h, z, fR, fQ, fD, fP, fB, t, F, P, O, rfl, hs, h3, h7, h24, hh, hz, hO, hT⟩ := hI
  refine UP.core (c_X6_violationCount l D ca m r g e hσ.2.2.2.2.2.2.1 h24 _ rfl) (mcore ca m r g s h z b T fR fQ fD fP fB t F P O) [(r 1, .inl (ca 0, 38, .inl (rwN s))), (r 2, .inl (ca 0, 304, .inl (rwN h))), (r 4, .inl (ca 0, 76, .inl (rwN z))), (r 5, .inl (ca 3, 2, .inl (rwN b))), (r 6, .inl (ca 0, 80, .inl (rwN T))), (r 17, .inl (ca 0, 4001, .inl fR)), (r 18, .inl (ca 0, 4001, .inl fQ)), (r 19, .inl (ca 0, 4001, .inl fD)), (r 20, .inl (ca 0, 4001, .inl fP)), (r 21, .inl (ca 0, 4001, .inl fB)), (r 23, .inl (ca 0, 8192, .inl (rwN t))), (r 30, .inl (ca 0, 30, .inl (rwN F))), (r 31, .inl (ca 0, 48, .inl P)), (r 33, .inl (ca 3, 1331, .inl (rwN O)))] [0] [1, 2, 3, 4, 5, 6, 7, 8, 9, 10, 11, 12, 13, 14] rfl rfl (by decide) (by decide) [] ?_
  rintro v W1 ⟨rfl, g2, hsc, rfl⟩
  exact ⟨(mcore ca m r g2 s h z b T fR fQ fD fP fB t F P O), [14, 0, 1, 2, 3, 4, 5, 6, 7, 8, 9, 10, 11, 12, 13], by decide, rfl, by rw [if_pos he], ⟨r, g2, s, h, z, fR, fQ, fD, fP, fB, t, F, P, O, rfl, hs, (hsc 3 (Or.inl rfl)).trans h3, (hsc 7 (Or.inr (Or.inl rfl))).trans h7, (hsc 24 (Or.inr (Or.inr (by decide)))).trans h24, hh, hz, hO, fun z1 => TD_scr (hT z1) hsc⟩⟩

set_option maxHeartbeats 2000000 in
set_option maxRecDepth 20000 in
theorem y_violationCount_y (l : Launch) (D : va_G) (ca : Nat → ClassId) (m : Nat) (S : Nat → Nat) (n : Nat) (U : Nat → Nat → Nat) (b : Nat → Nat) (V : Nat → Nat → Nat) (L : Nat) (T : Nat → Nat) (e : Nat) (hσ : SG S n U b V L T e) (he : e = 1) (W : va_W) (hI : MI ca m S n U b V L T e W) : UP l D ca yX6_violationCount wsX6_violationCount 0 0 0 0 W [.ref m] (fun v W1 => v = some (.int (nI (viC (BF S) (S 1) (BF S).length))) ∧ MI ca m S n U b V L T e W1) := by
  obtain ⟨r, g, s, h, z, fR, fQ, fD, fP, fB, t, F, P, O, rfl, hs, h3, h7, h24, hh, hz, hO, hT⟩ := hI
  refine UP.core (c_X6_violationCount l D ca m r g e hσ.2.2.2.2.2.2.1 h24 _ (hT he).2.2.1) (mcore ca m r g s h z b T fR fQ fD fP fB t F P O) [(r 1, .inl (ca 0, 38, .inl (rwN s))), (r 2, .inl (ca 0, 304, .inl (rwN h))), (r 4, .inl (ca 0, 76, .inl (rwN z))), (r 5, .inl (ca 3, 2, .inl (rwN b))), (r 6, .inl (ca 0, 80, .inl (rwN T))), (r 17, .inl (ca 0, 4001, .inl fR)), (r 18, .inl (ca 0, 4001, .inl fQ)), (r 19, .inl (ca 0, 4001, .inl fD)), (r 20, .inl (ca 0, 4001, .inl fP)), (r 21, .inl (ca 0, 4001, .inl fB)), (r 23, .inl (ca 0, 8192, .inl (rwN t))), (r 30, .inl (ca 0, 30, .inl (rwN F))), (r 31, .inl (ca 0, 48, .inl P)), (r 33, .inl (ca 3, 1331, .inl (rwN O)))] [0] [1, 2, 3, 4, 5, 6, 7, 8, 9, 10, 11, 12, 13, 14] rfl rfl (by decide) (by decide) [] ?_
  rintro v W1 ⟨rfl, g2, hsc, rfl⟩
  exact ⟨(mcore ca m r g2 s h z b T fR fQ fD fP fB t F P O), [14, 0, 1, 2, 3, 4, 5, 6, 7, 8, 9, 10, 11, 12, 13], by decide, rfl, by rw [if_neg (by omega)], ⟨r, g2, s, h, z, fR, fQ, fD, fP, fB, t, F, P, O, rfl, hs, (hsc 3 (Or.inl rfl)).trans h3, (hsc 7 (Or.inr (Or.inl rfl))).trans h7, (hsc 24 (Or.inr (Or.inr (by decide)))).trans h24, hh, hz, hO, fun z1 => TD_scr (hT z1) hsc⟩⟩

set_option maxHeartbeats 2000000 in
set_option maxRecDepth 20000 in
theorem y_greatestDepth_n (l : Launch) (D : va_G) (ca : Nat → ClassId) (m : Nat) (S : Nat → Nat) (n : Nat) (U : Nat → Nat → Nat) (b : Nat → Nat) (V : Nat → Nat → Nat) (L : Nat) (T : Nat → Nat) (e : Nat) (hσ : SG S n U b V L T e) (he : e = 0) (W : va_W) (hI : MI ca m S n U b V L T e W) : UP l D ca yX6_greatestDepth wsX6_greatestDepth 0 0 0 0 W [.ref m] (fun v W1 => v = some (.int (-2)) ∧ MI ca m S n U b V L T e W1) := by
  obtain ⟨r, g, s, h, z, fR, fQ, fD, fP, fB, t, F, P, O, rfl, hs, h3, h7, h24, hh, hz, hO, hT⟩ := hI
  refine UP.core (c_X6_greatestDepth l D ca m r g e hσ.2.2.2.2.2.2.1 h24 _ rfl) (mcore ca m r g s h z b T fR fQ fD fP fB t F P O) [(r 1, .inl (ca 0, 38, .inl (rwN s))), (r 2, .inl (ca 0, 304, .inl (rwN h))), (r 4, .inl (ca 0, 76, .inl (rwN z))), (r 5, .inl (ca 3, 2, .inl (rwN b))), (r 6, .inl (ca 0, 80, .inl (rwN T))), (r 17, .inl (ca 0, 4001, .inl fR)), (r 18, .inl (ca 0, 4001, .inl fQ)), (r 19, .inl (ca 0, 4001, .inl fD)), (r 20, .inl (ca 0, 4001, .inl fP)), (r 21, .inl (ca 0, 4001, .inl fB)), (r 23, .inl (ca 0, 8192, .inl (rwN t))), (r 30, .inl (ca 0, 30, .inl (rwN F))), (r 31, .inl (ca 0, 48, .inl P)), (r 33, .inl (ca 3, 1331, .inl (rwN O)))] [0] [1, 2, 3, 4, 5, 6, 7, 8, 9, 10, 11, 12, 13, 14] rfl rfl (by decide) (by decide) [] ?_
  rintro v W1 ⟨rfl, g2, hsc, rfl⟩
  exact ⟨(mcore ca m r g2 s h z b T fR fQ fD fP fB t F P O), [14, 0, 1, 2, 3, 4, 5, 6, 7, 8, 9, 10, 11, 12, 13], by decide, rfl, by rw [if_pos he], ⟨r, g2, s, h, z, fR, fQ, fD, fP, fB, t, F, P, O, rfl, hs, (hsc 3 (Or.inl rfl)).trans h3, (hsc 7 (Or.inr (Or.inl rfl))).trans h7, (hsc 24 (Or.inr (Or.inr (by decide)))).trans h24, hh, hz, hO, fun z1 => TD_scr (hT z1) hsc⟩⟩

set_option maxHeartbeats 2000000 in
set_option maxRecDepth 20000 in
theorem y_greatestDepth_y (l : Launch) (D : va_G) (ca : Nat → ClassId) (m : Nat) (S : Nat → Nat) (n : Nat) (U : Nat → Nat → Nat) (b : Nat → Nat) (V : Nat → Nat → Nat) (L : Nat) (T : Nat → Nat) (e : Nat) (hσ : SG S n U b V L T e) (he : e = 1) (W : va_W) (hI : MI ca m S n U b V L T e W) : UP l D ca yX6_greatestDepth wsX6_greatestDepth 0 0 0 0 W [.ref m] (fun v W1 => v = some (.int (nI (dep (BF S) ((BF S).length - 1)))) ∧ MI ca m S n U b V L T e W1) := by
  obtain ⟨r, g, s, h, z, fR, fQ, fD, fP, fB, t, F, P, O, rfl, hs, h3, h7, h24, hh, hz, hO, hT⟩ := hI
  refine UP.core (c_X6_greatestDepth l D ca m r g e hσ.2.2.2.2.2.2.1 h24 _ (hT he).2.2.2.1) (mcore ca m r g s h z b T fR fQ fD fP fB t F P O) [(r 1, .inl (ca 0, 38, .inl (rwN s))), (r 2, .inl (ca 0, 304, .inl (rwN h))), (r 4, .inl (ca 0, 76, .inl (rwN z))), (r 5, .inl (ca 3, 2, .inl (rwN b))), (r 6, .inl (ca 0, 80, .inl (rwN T))), (r 17, .inl (ca 0, 4001, .inl fR)), (r 18, .inl (ca 0, 4001, .inl fQ)), (r 19, .inl (ca 0, 4001, .inl fD)), (r 20, .inl (ca 0, 4001, .inl fP)), (r 21, .inl (ca 0, 4001, .inl fB)), (r 23, .inl (ca 0, 8192, .inl (rwN t))), (r 30, .inl (ca 0, 30, .inl (rwN F))), (r 31, .inl (ca 0, 48, .inl P)), (r 33, .inl (ca 3, 1331, .inl (rwN O)))] [0] [1, 2, 3, 4, 5, 6, 7, 8, 9, 10, 11, 12, 13, 14] rfl rfl (by decide) (by decide) [] ?_
  rintro v W1 ⟨rfl, g2, hsc, rfl⟩
  exact ⟨(mcore ca m r g2 s h z b T fR fQ fD fP fB t F P O), [14, 0, 1, 2, 3, 4, 5, 6, 7, 8, 9, 10, 11, 12, 13], by decide, rfl, by rw [if_neg (by omega)], ⟨r, g2, s, h, z, fR, fQ, fD, fP, fB, t, F, P, O, rfl, hs, (hsc 3 (Or.inl rfl)).trans h3, (hsc 7 (Or.inr (Or.inl rfl))).trans h7, (hsc 24 (Or.inr (Or.inr (by decide)))).trans h24, hh, hz, hO, fun z1 => TD_scr (hT z1) hsc⟩⟩

set_option maxHeartbeats 2000000 in
set_option maxRecDepth 20000 in
theorem y_greatestName_n (l : Launch) (D : va_G) (ca : Nat → ClassId) (m : Nat) (S : Nat → Nat) (n : Nat) (U : Nat → Nat → Nat) (b : Nat → Nat) (V : Nat → Nat → Nat) (L : Nat) (T : Nat → Nat) (e : Nat) (hσ : SG S n U b V L T e) (he : e = 0) (W : va_W) (hI : MI ca m S n U b V L T e W) : UP l D ca yX6_greatestName wsX6_greatestName 0 0 0 0 W [.ref m] (fun v W1 => v = some (.int (-2)) ∧ MI ca m S n U b V L T e W1) := by
  obtain ⟨r, g, s, h, z, fR, fQ, fD, fP, fB, t, F, P, O, rfl, hs, h3, h7, h24, hh, hz, hO, hT⟩ := hI
  refine UP.core (c_X6_greatestName l D ca m r g e hσ.2.2.2.2.2.2.1 h24 _ rfl) (mcore ca m r g s h z b T fR fQ fD fP fB t F P O) [(r 1, .inl (ca 0, 38, .inl (rwN s))), (r 2, .inl (ca 0, 304, .inl (rwN h))), (r 4, .inl (ca 0, 76, .inl (rwN z))), (r 5, .inl (ca 3, 2, .inl (rwN b))), (r 6, .inl (ca 0, 80, .inl (rwN T))), (r 17, .inl (ca 0, 4001, .inl fR)), (r 18, .inl (ca 0, 4001, .inl fQ)), (r 19, .inl (ca 0, 4001, .inl fD)), (r 20, .inl (ca 0, 4001, .inl fP)), (r 21, .inl (ca 0, 4001, .inl fB)), (r 23, .inl (ca 0, 8192, .inl (rwN t))), (r 30, .inl (ca 0, 30, .inl (rwN F))), (r 31, .inl (ca 0, 48, .inl P)), (r 33, .inl (ca 3, 1331, .inl (rwN O)))] [0] [1, 2, 3, 4, 5, 6, 7, 8, 9, 10, 11, 12, 13, 14] rfl rfl (by decide) (by decide) [] ?_
  rintro v W1 ⟨rfl, g2, hsc, rfl⟩
  exact ⟨(mcore ca m r g2 s h z b T fR fQ fD fP fB t F P O), [14, 0, 1, 2, 3, 4, 5, 6, 7, 8, 9, 10, 11, 12, 13], by decide, rfl, by rw [if_pos he], ⟨r, g2, s, h, z, fR, fQ, fD, fP, fB, t, F, P, O, rfl, hs, (hsc 3 (Or.inl rfl)).trans h3, (hsc 7 (Or.inr (Or.inl rfl))).trans h7, (hsc 24 (Or.inr (Or.inr (by decide)))).trans h24, hh, hz, hO, fun z1 => TD_scr (hT z1) hsc⟩⟩

set_option maxHeartbeats 2000000 in
set_option maxRecDepth 20000 in
theorem y_greatestName_y (l : Launch) (D : va_G) (ca : Nat → ClassId) (m : Nat) (S : Nat → Nat) (n : Nat) (U : Nat → Nat → Nat) (b : Nat → Nat) (V : Nat → Nat → Nat) (L : Nat) (T : Nat → Nat) (e : Nat) (hσ : SG S n U b V L T e) (he : e = 1) (W : va_W) (hI : MI ca m S n U b V L T e W) : UP l D ca yX6_greatestName wsX6_greatestName 0 0 0 0 W [.ref m] (fun v W1 => v = some (.int (n9 (hiB (BF S) (S 1) (BF S).length))) ∧ MI ca m S n U b V L T e W1) := by
  obtain ⟨r, g, s, h, z, fR, fQ, fD, fP, fB, t, F, P, O, rfl, hs, h3, h7, h24, hh, hz, hO, hT⟩ := hI
  refine UP.core (c_X6_greatestName l D ca m r g e hσ.2.2.2.2.2.2.1 h24 _ (hT he).2.2.2.2.1) (mcore ca m r g s h z b T fR fQ fD fP fB t F P O) [(r 1, .inl (ca 0, 38, .inl (rwN s))), (r 2, .inl (ca 0, 304, .inl (rwN h))), (r 4, .inl (ca 0, 76, .inl (rwN z))), (r 5, .inl (ca 3, 2, .inl (rwN b))), (r 6, .inl (ca 0, 80, .inl (rwN T))), (r 17, .inl (ca 0, 4001, .inl fR)), (r 18, .inl (ca 0, 4001, .inl fQ)), (r 19, .inl (ca 0, 4001, .inl fD)), (r 20, .inl (ca 0, 4001, .inl fP)), (r 21, .inl (ca 0, 4001, .inl fB)), (r 23, .inl (ca 0, 8192, .inl (rwN t))), (r 30, .inl (ca 0, 30, .inl (rwN F))), (r 31, .inl (ca 0, 48, .inl P)), (r 33, .inl (ca 3, 1331, .inl (rwN O)))] [0] [1, 2, 3, 4, 5, 6, 7, 8, 9, 10, 11, 12, 13, 14] rfl rfl (by decide) (by decide) [] ?_
  rintro v W1 ⟨rfl, g2, hsc, rfl⟩
  exact ⟨(mcore ca m r g2 s h z b T fR fQ fD fP fB t F P O), [14, 0, 1, 2, 3, 4, 5, 6, 7, 8, 9, 10, 11, 12, 13], by decide, rfl, by rw [if_neg (by omega)], ⟨r, g2, s, h, z, fR, fQ, fD, fP, fB, t, F, P, O, rfl, hs, (hsc 3 (Or.inl rfl)).trans h3, (hsc 7 (Or.inr (Or.inl rfl))).trans h7, (hsc 24 (Or.inr (Or.inr (by decide)))).trans h24, hh, hz, hO, fun z1 => TD_scr (hT z1) hsc⟩⟩

set_option maxHeartbeats 2000000 in
set_option maxRecDepth 20000 in
theorem y_outcomeCount_n (l : Launch) (D : va_G) (ca : Nat → ClassId) (m : Nat) (S : Nat → Nat) (n : Nat) (U : Nat → Nat → Nat) (b : Nat → Nat) (V : Nat → Nat → Nat) (L : Nat) (T : Nat → Nat) (e : Nat) (hσ : SG S n U b V L T e) (he : e = 0) (W : va_W) (hI : MI ca m S n U b V L T e W) : UP l D ca yX6_outcomeCount wsX6_outcomeCount 0 0 0 0 W [.ref m] (fun v W1 => v = some (.int (-2)) ∧ MI ca m S n U b V L T e W1) := by
  obtain ⟨r, g, s, h, z, fR, fQ, fD, fP, fB, t, F, P, O, rfl, hs, h3, h7, h24, hh, hz, hO, hT⟩ := hI
  refine UP.core (c_X6_outcomeCount l D ca m r g e hσ.2.2.2.2.2.2.1 h24 _ rfl) (mcore ca m r g s h z b T fR fQ fD fP fB t F P O) [(r 1, .inl (ca 0, 38, .inl (rwN s))), (r 2, .inl (ca 0, 304, .inl (rwN h))), (r 4, .inl (ca 0, 76, .inl (rwN z))), (r 5, .inl (ca 3, 2, .inl (rwN b))), (r 6, .inl (ca 0, 80, .inl (rwN T))), (r 17, .inl (ca 0, 4001, .inl fR)), (r 18, .inl (ca 0, 4001, .inl fQ)), (r 19, .inl (ca 0, 4001, .inl fD)), (r 20, .inl (ca 0, 4001, .inl fP)), (r 21, .inl (ca 0, 4001, .inl fB)), (r 23, .inl (ca 0, 8192, .inl (rwN t))), (r 30, .inl (ca 0, 30, .inl (rwN F))), (r 31, .inl (ca 0, 48, .inl P)), (r 33, .inl (ca 3, 1331, .inl (rwN O)))] [0] [1, 2, 3, 4, 5, 6, 7, 8, 9, 10, 11, 12, 13, 14] rfl rfl (by decide) (by decide) [] ?_
  rintro v W1 ⟨rfl, g2, hsc, rfl⟩
  exact ⟨(mcore ca m r g2 s h z b T fR fQ fD fP fB t F P O), [14, 0, 1, 2, 3, 4, 5, 6, 7, 8, 9, 10, 11, 12, 13], by decide, rfl, by rw [if_pos he], ⟨r, g2, s, h, z, fR, fQ, fD, fP, fB, t, F, P, O, rfl, hs, (hsc 3 (Or.inl rfl)).trans h3, (hsc 7 (Or.inr (Or.inl rfl))).trans h7, (hsc 24 (Or.inr (Or.inr (by decide)))).trans h24, hh, hz, hO, fun z1 => TD_scr (hT z1) hsc⟩⟩

set_option maxHeartbeats 2000000 in
set_option maxRecDepth 20000 in
theorem y_outcomeCount_y (l : Launch) (D : va_G) (ca : Nat → ClassId) (m : Nat) (S : Nat → Nat) (n : Nat) (U : Nat → Nat → Nat) (b : Nat → Nat) (V : Nat → Nat → Nat) (L : Nat) (T : Nat → Nat) (e : Nat) (hσ : SG S n U b V L T e) (he : e = 1) (W : va_W) (hI : MI ca m S n U b V L T e W) : UP l D ca yX6_outcomeCount wsX6_outcomeCount 0 0 0 0 W [.ref m] (fun v W1 => v = some (.int (nI (dsB (BF S) (S 1) (BF S).length))) ∧ MI ca m S n U b V L T e W1) := by
  obtain ⟨r, g, s, h, z, fR, fQ, fD, fP, fB, t, F, P, O, rfl, hs, h3, h7, h24, hh, hz, hO, hT⟩ := hI
  refine UP.core (c_X6_outcomeCount l D ca m r g e hσ.2.2.2.2.2.2.1 h24 _ (hT he).2.2.2.2.2.1) (mcore ca m r g s h z b T fR fQ fD fP fB t F P O) [(r 1, .inl (ca 0, 38, .inl (rwN s))), (r 2, .inl (ca 0, 304, .inl (rwN h))), (r 4, .inl (ca 0, 76, .inl (rwN z))), (r 5, .inl (ca 3, 2, .inl (rwN b))), (r 6, .inl (ca 0, 80, .inl (rwN T))), (r 17, .inl (ca 0, 4001, .inl fR)), (r 18, .inl (ca 0, 4001, .inl fQ)), (r 19, .inl (ca 0, 4001, .inl fD)), (r 20, .inl (ca 0, 4001, .inl fP)), (r 21, .inl (ca 0, 4001, .inl fB)), (r 23, .inl (ca 0, 8192, .inl (rwN t))), (r 30, .inl (ca 0, 30, .inl (rwN F))), (r 31, .inl (ca 0, 48, .inl P)), (r 33, .inl (ca 3, 1331, .inl (rwN O)))] [0] [1, 2, 3, 4, 5, 6, 7, 8, 9, 10, 11, 12, 13, 14] rfl rfl (by decide) (by decide) [] ?_
  rintro v W1 ⟨rfl, g2, hsc, rfl⟩
  exact ⟨(mcore ca m r g2 s h z b T fR fQ fD fP fB t F P O), [14, 0, 1, 2, 3, 4, 5, 6, 7, 8, 9, 10, 11, 12, 13], by decide, rfl, by rw [if_neg (by omega)], ⟨r, g2, s, h, z, fR, fQ, fD, fP, fB, t, F, P, O, rfl, hs, (hsc 3 (Or.inl rfl)).trans h3, (hsc 7 (Or.inr (Or.inl rfl))).trans h7, (hsc 24 (Or.inr (Or.inr (by decide)))).trans h24, hh, hz, hO, fun z1 => TD_scr (hT z1) hsc⟩⟩

set_option maxHeartbeats 2000000 in
set_option maxRecDepth 20000 in
theorem y_violationStep_n (l : Launch) (D : va_G) (ca : Nat → ClassId) (m : Nat) (S : Nat → Nat) (n : Nat) (U : Nat → Nat → Nat) (b : Nat → Nat) (V : Nat → Nat → Nat) (L : Nat) (T : Nat → Nat) (e : Nat) (hσ : SG S n U b V L T e) (q : Int32) (he : e = 0) (W : va_W) (hI : MI ca m S n U b V L T e W) : UP l D ca yX6_violationStep wsX6_violationStep 0 0 0 0 W [.ref m, .int q] (fun v W1 => v = some (.int (if q < 0 then -1 else -2)) ∧ MI ca m S n U b V L T e W1) := by
  obtain ⟨r, g, s, h, z, fR, fQ, fD, fP, fB, t, F, P, O, rfl, hs, h3, h7, h24, hh, hz, hO, hT⟩ := hI
  refine UP.core (c_X6_violationStep_n l D ca m r g q P (by rw [h24, he])) (mcore ca m r g s h z b T fR fQ fD fP fB t F P O) [(r 1, .inl (ca 0, 38, .inl (rwN s))), (r 2, .inl (ca 0, 304, .inl (rwN h))), (r 4, .inl (ca 0, 76, .inl (rwN z))), (r 5, .inl (ca 3, 2, .inl (rwN b))), (r 6, .inl (ca 0, 80, .inl (rwN T))), (r 17, .inl (ca 0, 4001, .inl fR)), (r 18, .inl (ca 0, 4001, .inl fQ)), (r 19, .inl (ca 0, 4001, .inl fD)), (r 20, .inl (ca 0, 4001, .inl fP)), (r 21, .inl (ca 0, 4001, .inl fB)), (r 23, .inl (ca 0, 8192, .inl (rwN t))), (r 30, .inl (ca 0, 30, .inl (rwN F))), (r 33, .inl (ca 3, 1331, .inl (rwN O)))] [0, 13] [1, 2, 3, 4, 5, 6, 7, 8, 9, 10, 11, 12, 14] rfl rfl (by decide) (by decide) [] ?_
  rintro v W1 ⟨rfl, g2, hsc, rfl⟩
  exact ⟨(mcore ca m r g2 s h z b T fR fQ fD fP fB t F P O), [13, 0, 1, 2, 3, 4, 5, 6, 7, 8, 9, 10, 11, 14, 12], by decide, rfl, rfl, ⟨r, g2, s, h, z, fR, fQ, fD, fP, fB, t, F, P, O, rfl, hs, (hsc 3 (Or.inl rfl)).trans h3, (hsc 7 (Or.inr (Or.inl rfl))).trans h7, (hsc 24 (Or.inr (Or.inr (by decide)))).trans h24, hh, hz, hO, fun z1 => TD_scr (hT z1) hsc⟩⟩

set_option maxHeartbeats 2000000 in
set_option maxRecDepth 20000 in
theorem y_violationStep_y (l : Launch) (D : va_G) (ca : Nat → ClassId) (m : Nat) (S : Nat → Nat) (n : Nat) (U : Nat → Nat → Nat) (b : Nat → Nat) (V : Nat → Nat → Nat) (L : Nat) (T : Nat → Nat) (e : Nat) (hσ : SG S n U b V L T e) (q : Int32) (he : e = 1) (W : va_W) (hI : MI ca m S n U b V L T e W) : UP l D ca yX6_violationStep wsX6_violationStep 0 0 0 0 W [.ref m, .int q] (fun v W1 => v = some (.int (ansVS S q)) ∧ MI ca m S n U b V L T e W1) := by
  obtain ⟨r, g, s, h, z, fR, fQ, fD, fP, fB, t, F, P, O, rfl, hs, h3, h7, h24, hh, hz, hO, hT⟩ := hI
  have TD := hT he
  obtain ⟨c0, hOB⟩ := OB_BF hσ.1
  by_cases hv : viC (BF S) (S 1) (BF S).length = 0
  · refine UP.core (c_X6_violationStep_z l D ca m r g q P (by rw [h24, he]) (by rw [TD.2.2.1, hv])) (mcore ca m r g s h z b T fR fQ fD fP fB t F P O) [(r 1, .inl (ca 0, 38, .inl (rwN s))), (r 2, .inl (ca 0, 304, .inl (rwN h))), (r 4, .inl (ca 0, 76, .inl (rwN z))), (r 5, .inl (ca 3, 2, .inl (rwN b))), (r 6, .inl (ca 0, 80, .inl (rwN T))), (r 17, .inl (ca 0, 4001, .inl fR)), (r 18, .inl (ca 0, 4001, .inl fQ)), (r 19, .inl (ca 0, 4001, .inl fD)), (r 20, .inl (ca 0, 4001, .inl fP)), (r 21, .inl (ca 0, 4001, .inl fB)), (r 23, .inl (ca 0, 8192, .inl (rwN t))), (r 30, .inl (ca 0, 30, .inl (rwN F))), (r 33, .inl (ca 3, 1331, .inl (rwN O)))] [0, 13] [1, 2, 3, 4, 5, 6, 7, 8, 9, 10, 11, 12, 14] rfl rfl (by decide) (by decide) [] ?_
    rintro v W1 ⟨rfl, g2, hsc, rfl⟩
    exact ⟨(mcore ca m r g2 s h z b T fR fQ fD fP fB t F P O), [13, 0, 1, 2, 3, 4, 5, 6, 7, 8, 9, 10, 11, 14, 12], by decide, rfl, by unfold ansVS; rw [if_pos hv], ⟨r, g2, s, h, z, fR, fQ, fD, fP, fB, t, F, P, O, rfl, hs, (hsc 3 (Or.inl rfl)).trans h3, (hsc 7 (Or.inr (Or.inl rfl))).trans h7, (hsc 24 (Or.inr (Or.inr (by decide)))).trans h24, hh, hz, hO, fun z1 => TD_scr (hT z1) hsc⟩⟩
  · obtain ⟨v0, hv0, u1, u2, hpl, hpp⟩ := TD.2.2.2.2.2.2.2 hv
    obtain ⟨w1, w2, w3⟩ := fV_s hv
    have hv0e := fV_u hv u1 u2
    rw [hv0e] at hpl hpp
    refine UP.core (c_X6_violationStep_y l D ca m r g q P (by rw [h24, he]) _ _ hv (by have := vi_le (BF S) (S 1) (BF S).length; have := hσ.2.2.2.2.2.2.2 he; omega) TD.2.2.1 (dep_48 hOB w1) hpl) (mcore ca m r g s h z b T fR fQ fD fP fB t F P O) [(r 1, .inl (ca 0, 38, .inl (rwN s))), (r 2, .inl (ca 0, 304, .inl (rwN h))), (r 4, .inl (ca 0, 76, .inl (rwN z))), (r 5, .inl (ca 3, 2, .inl (rwN b))), (r 6, .inl (ca 0, 80, .inl (rwN T))), (r 17, .inl (ca 0, 4001, .inl fR)), (r 18, .inl (ca 0, 4001, .inl fQ)), (r 19, .inl (ca 0, 4001, .inl fD)), (r 20, .inl (ca 0, 4001, .inl fP)), (r 21, .inl (ca 0, 4001, .inl fB)), (r 23, .inl (ca 0, 8192, .inl (rwN t))), (r 30, .inl (ca 0, 30, .inl (rwN F))), (r 33, .inl (ca 3, 1331, .inl (rwN O)))] [0, 13] [1, 2, 3, 4, 5, 6, 7, 8, 9, 10, 11, 12, 14] rfl rfl (by decide) (by decide) [] ?_
    rintro v W1 ⟨rfl, g2, hsc, rfl⟩
    refine ⟨(mcore ca m r g2 s h z b T fR fQ fD fP fB t F P O), [13, 0, 1, 2, 3, 4, 5, 6, 7, 8, 9, 10, 11, 14, 12], by decide, rfl, ?_, ⟨r, g2, s, h, z, fR, fQ, fD, fP, fB, t, F, P, O, rfl, hs, (hsc 3 (Or.inl rfl)).trans h3, (hsc 7 (Or.inr (Or.inl rfl))).trans h7, (hsc 24 (Or.inr (Or.inr (by decide)))).trans h24, hh, hz, hO, fun z1 => TD_scr (hT z1) hsc⟩⟩
    unfold ansVS
    rw [if_neg hv]
    by_cases c1 : q.toNatClampNeg < dep (BF S) (fV (BF S) (S 1) (BF S).length)
    · rw [if_pos c1, if_pos c1, hpp _ c1]
    · rw [if_neg c1, if_neg c1]

set_option maxHeartbeats 2000000 in
set_option maxRecDepth 20000 in
theorem y_finalsWith_n (l : Launch) (D : va_G) (ca : Nat → ClassId) (m : Nat) (S : Nat → Nat) (n : Nat) (U : Nat → Nat → Nat) (b : Nat → Nat) (V : Nat → Nat → Nat) (L : Nat) (T : Nat → Nat) (e : Nat) (hσ : SG S n U b V L T e) (q y : Int32) (he : e = 0) (W : va_W) (hI : MI ca m S n U b V L T e W) : UP l D ca yX6_finalsWith wsX6_finalsWith 2 43 0 0 W [.ref m, .int q, .int y] (fun v W1 => v = some (.int (if inR (S 1) q ∧ inR (nmS S) y then -2 else -1)) ∧ MI ca m S n U b V L T e W1) := by
  obtain ⟨r, g, s, h, z, fR, fQ, fD, fP, fB, t, F, P, O, rfl, hs, h3, h7, h24, hh, hz, hO, hT⟩ := hI
  refine UP.core (c_X6_finalsWith_n l D ca m r g s S hs hσ.1 q y F (by rw [h24, he])) (mcore ca m r g s h z b T fR fQ fD fP fB t F P O) [(r 2, .inl (ca 0, 304, .inl (rwN h))), (r 4, .inl (ca 0, 76, .inl (rwN z))), (r 5, .inl (ca 3, 2, .inl (rwN b))), (r 6, .inl (ca 0, 80, .inl (rwN T))), (r 17, .inl (ca 0, 4001, .inl fR)), (r 18, .inl (ca 0, 4001, .inl fQ)), (r 19, .inl (ca 0, 4001, .inl fD)), (r 20, .inl (ca 0, 4001, .inl fP)), (r 21, .inl (ca 0, 4001, .inl fB)), (r 23, .inl (ca 0, 8192, .inl (rwN t))), (r 31, .inl (ca 0, 48, .inl P)), (r 33, .inl (ca 3, 1331, .inl (rwN O)))] [0, 1, 12] [2, 3, 4, 5, 6, 7, 8, 9, 10, 11, 13, 14] rfl rfl (by decide) (by decide) [] ?_
  rintro v W1 ⟨rfl, g2, hsc, rfl⟩
  exact ⟨(mcore ca m r g2 s h z b T fR fQ fD fP fB t F P O), [12, 13, 0, 1, 2, 3, 4, 5, 6, 7, 8, 9, 14, 10, 11], by decide, rfl, rfl, ⟨r, g2, s, h, z, fR, fQ, fD, fP, fB, t, F, P, O, rfl, hs, (hsc 3 (Or.inl rfl)).trans h3, (hsc 7 (Or.inr (Or.inl rfl))).trans h7, (hsc 24 (Or.inr (Or.inr (by decide)))).trans h24, hh, hz, hO, fun z1 => TD_scr (hT z1) hsc⟩⟩

set_option maxHeartbeats 2000000 in
set_option maxRecDepth 20000 in
theorem y_finalsWith_y (l : Launch) (D : va_G) (ca : Nat → ClassId) (m : Nat) (S : Nat → Nat) (n : Nat) (U : Nat → Nat → Nat) (b : Nat → Nat) (V : Nat → Nat → Nat) (L : Nat) (T : Nat → Nat) (e : Nat) (hσ : SG S n U b V L T e) (q y : Int32) (he : e = 1) (W : va_W) (hI : MI ca m S n U b V L T e W) : UP l D ca yX6_finalsWith wsX6_finalsWith 2 43 0 0 W [.ref m, .int q, .int y] (fun v W1 => v = some (.int (if inR (S 1) q ∧ inR (nmS S) y then nI (fnC (BF S) (S 1) q.toNatClampNeg y.toNatClampNeg (BF S).length) else -1)) ∧ MI ca m S n U b V L T e W1) := by
  obtain ⟨r, g, s, h, z, fR, fQ, fD, fP, fB, t, F, P, O, rfl, hs, h3, h7, h24, hh, hz, hO, hT⟩ := hI
  refine UP.core (c_X6_finalsWith_y l D ca m r g s S hs hσ.1 q y F (by rw [h24, he])) (mcore ca m r g s h z b T fR fQ fD fP fB t F P O) [(r 2, .inl (ca 0, 304, .inl (rwN h))), (r 4, .inl (ca 0, 76, .inl (rwN z))), (r 5, .inl (ca 3, 2, .inl (rwN b))), (r 6, .inl (ca 0, 80, .inl (rwN T))), (r 17, .inl (ca 0, 4001, .inl fR)), (r 18, .inl (ca 0, 4001, .inl fQ)), (r 19, .inl (ca 0, 4001, .inl fD)), (r 20, .inl (ca 0, 4001, .inl fP)), (r 21, .inl (ca 0, 4001, .inl fB)), (r 23, .inl (ca 0, 8192, .inl (rwN t))), (r 31, .inl (ca 0, 48, .inl P)), (r 33, .inl (ca 3, 1331, .inl (rwN O)))] [0, 1, 12] [2, 3, 4, 5, 6, 7, 8, 9, 10, 11, 13, 14] rfl rfl (by decide) (by decide) [] ?_
  rintro v W1 ⟨rfl, g2, hsc, rfl⟩
  refine ⟨(mcore ca m r g2 s h z b T fR fQ fD fP fB t F P O), [12, 13, 0, 1, 2, 3, 4, 5, 6, 7, 8, 9, 14, 10, 11], by decide, rfl, ?_, ⟨r, g2, s, h, z, fR, fQ, fD, fP, fB, t, F, P, O, rfl, hs, (hsc 3 (Or.inl rfl)).trans h3, (hsc 7 (Or.inr (Or.inl rfl))).trans h7, (hsc 24 (Or.inr (Or.inr (by decide)))).trans h24, hh, hz, hO, fun z1 => TD_scr (hT z1) hsc⟩⟩
  by_cases c1 : inR (S 1) q ∧ inR (nmS S) y
  · obtain ⟨p, hp, hqp⟩ := inR_j (n := S 1) (by have := hσ.1.2.1; omega) c1.1
    obtain ⟨t0, ht0, hyt⟩ := inR_j (n := nmS S) (by have := nmS_le hσ.1; omega) c1.2
    have hn3 := hσ.1.2.1
    have hn10 := nmS_le hσ.1
    rw [if_pos c1, if_pos c1, hqp, hyt, nI_clamp (by omega), nI_clamp (by omega), (hT he).2.2.2.2.2.2.1 p t0 hp (by omega)]
  · rw [if_neg c1, if_neg c1]

