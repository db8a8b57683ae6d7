/-! ===== the class, whole: its world in a state ===== -/
abbrev xcore (ca : Nat → ClassId) (g pr sc sa sl sch tx ip ic : Nat) (sv : Nat → Nat) (S Z : Nat → Nat) (UU : Nat → Nat → Nat) (n L c : Nat) (T P K : Nat → Nat) (vW vT : Value) (o0 o1 : Option Nat) : va_W :=
  [(g, .inr (3, [.ref pr, .ref sc, .ref sa, .int (nI n), .ref sl, .ref sch, vW, vT])), (pr, .inr (2, cS S)), (sc, .inr (2, cS Z)), (sa, .inl (ca 4, 8, .inr (.inr (.inr (.inr (qo [some (sv 0), some (sv 1), some (sv 2), some (sv 3), some (sv 4), some (sv 5), some (sv 6), some (sv 7)])))))), (sv 0, .inr (2, cS (UU 0))), (sv 1, .inr (2, cS (UU 1))), (sv 2, .inr (2, cS (UU 2))), (sv 3, .inr (2, cS (UU 3))), (sv 4, .inr (2, cS (UU 4))), (sv 5, .inr (2, cS (UU 5))), (sv 6, .inr (2, cS (UU 6))), (sv 7, .inr (2, cS (UU 7))), (sch, .inr (1, [.ref tx, .int (nI L), .ref ip, .ref ic, .int (nI c)])), (tx, .inl (ca 2, 80, .inl (rwN T))), (ip, .inl (ca 0, 40, .inl (rwN P))), (ic, .inl (ca 0, 40, .inl (rwN K))), (sl, .inl (ca 4, 2, .inr (.inr (.inr (.inr (qo [o0, o1]))))))]
def SLx (b : Nat → Nat) (V : Nat → Nat → Nat) (o0 o1 : Option Nat) (wS : va_W) : Prop :=
  (b 0 = 0 ∧ b 1 = 0 ∧ o0 = none ∧ o1 = none ∧ wS = []) ∨ (b 0 = 0 ∧ b 1 = 1 ∧ ∃ z1 : Nat, o0 = none ∧ o1 = some z1 ∧ wS = [(z1, .inr (2, cS (V 1)))]) ∨ (b 0 = 1 ∧ b 1 = 0 ∧ ∃ z0 : Nat, o0 = some z0 ∧ o1 = none ∧ wS = [(z0, .inr (2, cS (V 0)))]) ∨ (b 0 = 1 ∧ b 1 = 1 ∧ ∃ z0 z1 : Nat, o0 = some z0 ∧ o1 = some z1 ∧ wS = [(z0, .inr (2, cS (V 0))), (z1, .inr (2, cS (V 1)))])
/-- the exploration's cells: e is 1 if something is told of it, w is 1 if its object is made -/
def EXx (ca : Nat → ClassId) (S : Nat → Nat) (e w : Nat) (vW vT : Value) (wE : va_W) : Prop :=
  (e = 0 ∧ w = 0 ∧ vW = .null ∧ vT = .null ∧ wE = []) ∨ (e = 0 ∧ w = 1 ∧ ∃ (xa fo pa mo ta ou cnt n0 : Nat) (f : Nat → Int64) (p m : Nat → Int32) (t : Nat → Nat) (o : Nat → Int64), vW = .ref xa ∧ vT = .null ∧ wE = exW ca xa fo pa mo ta ou f p m t cnt n0 ++ [(ou, .inl (ca 1, 64, .inr (.inl o)))]) ∨
  (e = 1 ∧ w = 1 ∧ ∃ (xa fo pa mo ta ou : Nat) (f : Nat → Int64) (p m : Nat → Int32) (t : Nat → Nat) (o : Nat → Int64), vW = .ref xa ∧ vT = .ref xa ∧ EXR (BF S) f p m t (BF S).length ∧ wE = exW ca xa fo pa mo ta ou f p m t (BF S).length (S 1) ++ [(ou, .inl (ca 1, 64, .inr (.inl o)))])
/-- the class's object in the state: S, n states U kept, slots b V, the text T of length L -/
def XI (ca : Nat → ClassId) (g : Nat) (S : Nat → Nat) (n : Nat) (U : Nat → Nat → Nat) (b : Nat → Nat) (V : Nat → Nat → Nat) (L : Nat) (T : Nat → Nat) (e w : Nat) (W : va_W) : Prop :=
  ∃ (pr sc sa sl sch tx ip ic : Nat) (sv Z : Nat → Nat) (UU : Nat → Nat → Nat) (c : Nat) (P K : Nat → Nat) (vW vT : Value) (o0 o1 : Option Nat) (wS wE : va_W), W = xcore ca g pr sc sa sl sch tx ip ic sv S Z UU n L c T P K vW vT o0 o1 ++ (wS ++ wE) ∧ (∀ i, i < n → UU i = U i) ∧ SLx b V o0 o1 wS ∧ EXx ca S e w vW vT wE
def SG (S : Nat → Nat) (n : Nat) (U : Nat → Nat → Nat) (b : Nat → Nat) (V : Nat → Nat → Nat) (L : Nat) (T : Nat → Nat) (e : Nat) : Prop :=
  SOK S ∧ n ≤ 8 ∧ (∀ i, i < n → SOK (U i)) ∧ (∀ j, j < 2 → b j < 2 ∧ (b j ≠ 0 → SOK (V j))) ∧ L ≤ 80 ∧ (∀ i, T i ≤ 255) ∧ e < 2 ∧ (e = 1 → (BF S).length ≤ 4000)
/-- a state kept -/
def kU (n : Nat) (U : Nat → Nat → Nat) (S : Nat → Nat) : Nat → Nat → Nat := fun i => if n = 8 then (if i = 7 then S else U (i + 1)) else if i = n then S else U i
theorem kpN_le {n : Nat} (h : n ≤ 8) : kpN n ≤ 8 := by unfold kpN; split <;> omega
theorem kU_ok {n : Nat} {U : Nat → Nat → Nat} {S : Nat → Nat} (hn : n ≤ 8) (hU : ∀ i, i < n → SOK (U i)) (hS : SOK S) : ∀ i, i < kpN n → SOK (kU n U S i) := fun i hi => by
  unfold kU
  unfold kpN at hi
  by_cases e : n = 8
  · rw [if_pos e] at hi ⊢
    by_cases c : i = 7
    · rw [if_pos c]; exact hS
    · rw [if_neg c]; exact hU (i + 1) (by omega)
  · rw [if_neg e] at hi ⊢
    by_cases c : i = n
    · rw [if_pos c]; exact hS
    · rw [if_neg c]; exact hU i (by omega)
theorem kp_ok {n n2 : Nat} {U UU U2 : Nat → Nat → Nat} {S : Nat → Nat} (h : kpR n UU S n2 U2) (hU : ∀ i, i < n → UU i = U i) : n2 = kpN n ∧ ∀ i, i < n2 → U2 i = kU n U S i := by
  refine ⟨h.1, fun i hi => ?_⟩
  have h2 := h.2 i hi
  have h1 := h.1
  unfold kU
  rw [h2]
  by_cases e : n = 8
  · rw [if_pos e] at h1 ⊢
    rw [if_pos e]
    by_cases c : i = 7
    · rw [if_pos c, if_pos c]
    · rw [if_neg c, if_neg c]; exact hU (i + 1) (by omega)
  · rw [if_neg e] at h1 ⊢
    rw [if_neg e]
    by_cases c : i = n
    · rw [if_pos c, if_pos c]
    · rw [if_neg c, if_neg c]; exact hU i (by omega)
theorem SG_ch {S S2 : Nat → Nat} {n : Nat} {U : Nat → Nat → Nat} {b : Nat → Nat} {V : Nat → Nat → Nat} {L : Nat} {T : Nat → Nat} {e : Nat} (h : SG S n U b V L T e) (h2 : SOK S2) : SG S2 (kpN n) (kU n U S) b V L T 0 :=
  ⟨h2, kpN_le h.2.1, kU_ok h.2.1 h.2.2.1 h.1, h.2.2.2.1, h.2.2.2.2.1, h.2.2.2.2.2.1, by decide, fun z => absurd z (by decide)⟩
theorem EX_0 {ca : Nat → ClassId} {S S2 : Nat → Nat} {e w : Nat} {vW vT : Value} {wE : va_W} (h : EXx ca S e w vW vT wE) : EXx ca S2 0 w vW .null wE := by
  rcases h with ⟨-, h2, h3, -, h5⟩ | ⟨-, h2, xa, fo, pa, mo, ta, ou, cnt, n0, f, p, m, t, o, h3, -, h5⟩ | ⟨-, h2, xa, fo, pa, mo, ta, ou, f, p, m, t, o, h3, -, -, h5⟩
  · exact Or.inl ⟨rfl, h2, h3, rfl, h5⟩
  · exact Or.inr (Or.inl ⟨rfl, h2, xa, fo, pa, mo, ta, ou, cnt, n0, f, p, m, t, o, h3, rfl, h5⟩)
  · exact Or.inr (Or.inl ⟨rfl, h2, xa, fo, pa, mo, ta, ou, _, _, f, p, m, t, o, h3, rfl, h5⟩)
theorem UP.core {l : Launch} {D : va_G} {ca : Nat → ClassId} {y : MethodName} {ws : List Cond} {fr lo mc ms : Nat} {Wd : va_W} {As : List Value} {Om Om2 : Option Value → va_W → Prop} (h : UP l D ca y ws fr lo mc ms Wd As Om) (cr wr : va_W) (isC isR : List Nat) (hC : isC.map (fun i => cr[i]?) = Wd.map some) (hR : isR.map (fun i => cr[i]?) = wr.map some) (hnd : va_nd isC = true ∧ va_nd isR = true) (hdis : ∀ i ∈ isR, i ∉ isC) (b : va_W)
    (hO : ∀ v W1, Om v W1 → ∃ (c2 : va_W) (perm : List Nat), va_nd perm = true ∧ perm.map (fun i => (wr ++ W1)[i]?) = c2.map some ∧ Om2 v (c2 ++ b)) : UP l D ca y ws fr lo mc ms (cr ++ b) As Om2 :=
  UP.out (UP.tail (UP.frame h cr wr isC isR hC hR hnd hdis) b) (fun v W1 h1 => by
    obtain ⟨W2, ⟨W3, h3, rfl⟩, rfl⟩ := h1
    obtain ⟨c2, perm, hn, hp, h4⟩ := hO v W3 h3
    exact ⟨c2 ++ b, h4, fun A H hP hD => PD_re perm hn hp hP hD⟩)
theorem kcap {l : Launch} {D : va_G} {ca : Nat → ClassId} {y : MethodName} {ws : List Cond} {fr lo mc ms : Nat} {W W' : va_W} {As : List Value} {Om : Option Value → va_W → Prop} (e : W = W') (h : UP l D ca y ws fr lo mc ms W' As Om) : UP l D ca y ws fr lo mc ms W As Om := by rw [e]; exact h

set_option maxHeartbeats 2000000 in
set_option maxRecDepth 20000 in
theorem x_nameCount (l : Launch) (D : va_G) (ca : Nat → ClassId) (g : Nat) (S : Nat → Nat) (n : Nat) (U : Nat → Nat → Nat) (b : Nat → Nat) (V : Nat → Nat → Nat) (L : Nat) (T : Nat → Nat) (e w : Nat) (hσ : SG S n U b V L T e) (W : va_W) (hI : XI ca g S n U b V L T e w W) : UP l D ca yX5_nameCount wsX5_nameCount 1 20 0 0 W [.ref g] (fun v W1 => v = some (.int (nI (nmS S))) ∧ XI ca g S n U b V L T e w W1) := by
  have hI0 := hI
  obtain ⟨pr, sc, sa, sl, sch, tx, ip, ic, sv, Z, UU, c, P, K, vW, vT, o0, o1, wS, wE, rfl, hU, hS, hE⟩ := hI
  exact UP.mono (RD.up (c_X5_nameCount l D ca g pr sc sa sl sch n vW vT S hσ.1) _ [0, 1] rfl) (fun v W1 h => ⟨h.1, by rw [h.2]; exact hI0⟩)

set_option maxHeartbeats 2000000 in
set_option maxRecDepth 20000 in
theorem x_processCount (l : Launch) (D : va_G) (ca : Nat → ClassId) (g : Nat) (S : Nat → Nat) (n : Nat) (U : Nat → Nat → Nat) (b : Nat → Nat) (V : Nat → Nat → Nat) (L : Nat) (T : Nat → Nat) (e w : Nat) (hσ : SG S n U b V L T e) (W : va_W) (hI : XI ca g S n U b V L T e w W) : UP l D ca yX5_processCount wsX5_processCount 0 0 0 0 W [.ref g] (fun v W1 => v = some (.int (nI (S 1))) ∧ XI ca g S n U b V L T e w W1) := by
  have hI0 := hI
  obtain ⟨pr, sc, sa, sl, sch, tx, ip, ic, sv, Z, UU, c, P, K, vW, vT, o0, o1, wS, wE, rfl, hU, hS, hE⟩ := hI
  exact UP.mono (RD.up (c_X5_processCount l D ca g pr sc sa sl sch n vW vT S) _ [0, 1] rfl) (fun v W1 h => ⟨h.1, by rw [h.2]; exact hI0⟩)

set_option maxHeartbeats 2000000 in
set_option maxRecDepth 20000 in
theorem x_status (l : Launch) (D : va_G) (ca : Nat → ClassId) (g : Nat) (S : Nat → Nat) (n : Nat) (U : Nat → Nat → Nat) (b : Nat → Nat) (V : Nat → Nat → Nat) (L : Nat) (T : Nat → Nat) (e w : Nat) (hσ : SG S n U b V L T e) (q : Int32) (W : va_W) (hI : XI ca g S n U b V L T e w W) : UP l D ca yX5_status wsX5_status 1 22 0 0 W [.ref g, .int q] (fun v W1 => v = some (.int (ansP (S 1) q (fun j => nI (stC (S 3) j)))) ∧ XI ca g S n U b V L T e w W1) := by
  have hI0 := hI
  obtain ⟨pr, sc, sa, sl, sch, tx, ip, ic, sv, Z, UU, c, P, K, vW, vT, o0, o1, wS, wE, rfl, hU, hS, hE⟩ := hI
  exact UP.mono (RD.up (c_X5_status l D ca g pr sc sa sl sch n vW vT S q hσ.1) _ [0, 1] rfl) (fun v W1 h => ⟨h.1, by rw [h.2]; exact hI0⟩)

set_option maxHeartbeats 2000000 in
set_option maxRecDepth 20000 in
theorem x_splitterOf (l : Launch) (D : va_G) (ca : Nat → ClassId) (g : Nat) (S : Nat → Nat) (n : Nat) (U : Nat → Nat → Nat) (b : Nat → Nat) (V : Nat → Nat → Nat) (L : Nat) (T : Nat → Nat) (e w : Nat) (hσ : SG S n U b V L T e) (q : Int32) (W : va_W) (hI : XI ca g S n U b V L T e w W) : UP l D ca yX5_splitterOf wsX5_splitterOf 1 22 0 0 W [.ref g, .int q] (fun v W1 => v = some (.int (ansP (S 1) q (fun j => if stC (S 3) j = 2 then -9 else nI (spC (S 3) j)))) ∧ XI ca g S n U b V L T e w W1) := by
  have hI0 := hI
  obtain ⟨pr, sc, sa, sl, sch, tx, ip, ic, sv, Z, UU, c, P, K, vW, vT, o0, o1, wS, wE, rfl, hU, hS, hE⟩ := hI
  exact UP.mono (RD.up (c_X5_splitterOf l D ca g pr sc sa sl sch n vW vT S q hσ.1) _ [0, 1] rfl) (fun v W1 h => ⟨h.1, by rw [h.2]; exact hI0⟩)

set_option maxHeartbeats 2000000 in
set_option maxRecDepth 20000 in
theorem x_phaseOf (l : Launch) (D : va_G) (ca : Nat → ClassId) (g : Nat) (S : Nat → Nat) (n : Nat) (U : Nat → Nat → Nat) (b : Nat → Nat) (V : Nat → Nat → Nat) (L : Nat) (T : Nat → Nat) (e w : Nat) (hσ : SG S n U b V L T e) (q : Int32) (W : va_W) (hI : XI ca g S n U b V L T e w W) : UP l D ca yX5_phaseOf wsX5_phaseOf 1 22 0 0 W [.ref g, .int q] (fun v W1 => v = some (.int (ansP (S 1) q (fun j => if stC (S 3) j = 2 then -9 else nI (phC (S 3) j)))) ∧ XI ca g S n U b V L T e w W1) := by
  have hI0 := hI
  obtain ⟨pr, sc, sa, sl, sch, tx, ip, ic, sv, Z, UU, c, P, K, vW, vT, o0, o1, wS, wE, rfl, hU, hS, hE⟩ := hI
  exact UP.mono (RD.up (c_X5_phaseOf l D ca g pr sc sa sl sch n vW vT S q hσ.1) _ [0, 1] rfl) (fun v W1 h => ⟨h.1, by rw [h.2]; exact hI0⟩)

set_option maxHeartbeats 2000000 in
set_option maxRecDepth 20000 in
theorem x_stepsOf (l : Launch) (D : va_G) (ca : Nat → ClassId) (g : Nat) (S : Nat → Nat) (n : Nat) (U : Nat → Nat → Nat) (b : Nat → Nat) (V : Nat → Nat → Nat) (L : Nat) (T : Nat → Nat) (e w : Nat) (hσ : SG S n U b V L T e) (q : Int32) (W : va_W) (hI : XI ca g S n U b V L T e w W) : UP l D ca yX5_stepsOf wsX5_stepsOf 1 22 0 0 W [.ref g, .int q] (fun v W1 => v = some (.int (ansP (S 1) q (fun j => nI (cnt (S 4) j)))) ∧ XI ca g S n U b V L T e w W1) := by
  have hI0 := hI
  obtain ⟨pr, sc, sa, sl, sch, tx, ip, ic, sv, Z, UU, c, P, K, vW, vT, o0, o1, wS, wE, rfl, hU, hS, hE⟩ := hI
  exact UP.mono (RD.up (c_X5_stepsOf l D ca g pr sc sa sl sch n vW vT S q hσ.1) _ [0, 1] rfl) (fun v W1 h => ⟨h.1, by rw [h.2]; exact hI0⟩)

set_option maxHeartbeats 2000000 in
set_option maxRecDepth 20000 in
theorem x_owner (l : Launch) (D : va_G) (ca : Nat → ClassId) (g : Nat) (S : Nat → Nat) (n : Nat) (U : Nat → Nat → Nat) (b : Nat → Nat) (V : Nat → Nat → Nat) (L : Nat) (T : Nat → Nat) (e w : Nat) (hσ : SG S n U b V L T e) (q : Int32) (W : va_W) (hI : XI ca g S n U b V L T e w W) : UP l D ca yX5_owner wsX5_owner 2 43 0 0 W [.ref g, .int q] (fun v W1 => v = some (.int (ansP (nmS S) q (fun j => ownV (S 3) j))) ∧ XI ca g S n U b V L T e w W1) := by
  have hI0 := hI
  obtain ⟨pr, sc, sa, sl, sch, tx, ip, ic, sv, Z, UU, c, P, K, vW, vT, o0, o1, wS, wE, rfl, hU, hS, hE⟩ := hI
  exact UP.mono (RD.up (c_X5_owner l D ca g pr sc sa sl sch n vW vT S q hσ.1) _ [0, 1] rfl) (fun v W1 h => ⟨h.1, by rw [h.2]; exact hI0⟩)

set_option maxHeartbeats 2000000 in
set_option maxRecDepth 20000 in
theorem x_door (l : Launch) (D : va_G) (ca : Nat → ClassId) (g : Nat) (S : Nat → Nat) (n : Nat) (U : Nat → Nat → Nat) (b : Nat → Nat) (V : Nat → Nat → Nat) (L : Nat) (T : Nat → Nat) (e w : Nat) (hσ : SG S n U b V L T e) (q : Int32) (W : va_W) (hI : XI ca g S n U b V L T e w W) : UP l D ca yX5_door wsX5_door 2 42 0 0 W [.ref g, .int q] (fun v W1 => v = some (.int (ansP (nmS S) q (fun j => nI (doC (S 3) j)))) ∧ XI ca g S n U b V L T e w W1) := by
  have hI0 := hI
  obtain ⟨pr, sc, sa, sl, sch, tx, ip, ic, sv, Z, UU, c, P, K, vW, vT, o0, o1, wS, wE, rfl, hU, hS, hE⟩ := hI
  exact UP.mono (RD.up (c_X5_door l D ca g pr sc sa sl sch n vW vT S q hσ.1) _ [0, 1] rfl) (fun v W1 h => ⟨h.1, by rw [h.2]; exact hI0⟩)

set_option maxHeartbeats 2000000 in
set_option maxRecDepth 20000 in
theorem x_entered (l : Launch) (D : va_G) (ca : Nat → ClassId) (g : Nat) (S : Nat → Nat) (n : Nat) (U : Nat → Nat → Nat) (b : Nat → Nat) (V : Nat → Nat → Nat) (L : Nat) (T : Nat → Nat) (e w : Nat) (hσ : SG S n U b V L T e) (q : Int32) (W : va_W) (hI : XI ca g S n U b V L T e w W) : UP l D ca yX5_entered wsX5_entered 2 41 0 0 W [.ref g, .int q] (fun v W1 => v = some (.int (ansP (nmS S) q (fun j => nI (cnt (S 5) j)))) ∧ XI ca g S n U b V L T e w W1) := by
  have hI0 := hI
  obtain ⟨pr, sc, sa, sl, sch, tx, ip, ic, sv, Z, UU, c, P, K, vW, vT, o0, o1, wS, wE, rfl, hU, hS, hE⟩ := hI
  exact UP.mono (RD.up (c_X5_entered l D ca g pr sc sa sl sch n vW vT S q hσ.1) _ [0, 1] rfl) (fun v W1 h => ⟨h.1, by rw [h.2]; exact hI0⟩)

set_option maxHeartbeats 2000000 in
set_option maxRecDepth 20000 in
theorem x_left (l : Launch) (D : va_G) (ca : Nat → ClassId) (g : Nat) (S : Nat → Nat) (n : Nat) (U : Nat → Nat → Nat) (b : Nat → Nat) (V : Nat → Nat → Nat) (L : Nat) (T : Nat → Nat) (e w : Nat) (hσ : SG S n U b V L T e) (q z : Int32) (W : va_W) (hI : XI ca g S n U b V L T e w W) : UP l D ca yX5_left wsX5_left 2 41 0 0 W [.ref g, .int q, .int z] (fun v W1 => v = some (.int (ansP (nmS S) q (fun j => if z = 0 then nI (cnt (S 6) j) else if z = nI 1 then nI (cnt (S 7) j) else -1))) ∧ XI ca g S n U b V L T e w W1) := by
  have hI0 := hI
  obtain ⟨pr, sc, sa, sl, sch, tx, ip, ic, sv, Z, UU, c, P, K, vW, vT, o0, o1, wS, wE, rfl, hU, hS, hE⟩ := hI
  exact UP.mono (RD.up (c_X5_left l D ca g pr sc sa sl sch n vW vT S q z hσ.1) _ [0, 1] rfl) (fun v W1 h => ⟨h.1, by rw [h.2]; exact hI0⟩)

set_option maxHeartbeats 2000000 in
set_option maxRecDepth 20000 in
theorem x_soloSteps (l : Launch) (D : va_G) (ca : Nat → ClassId) (g : Nat) (S : Nat → Nat) (n : Nat) (U : Nat → Nat → Nat) (b : Nat → Nat) (V : Nat → Nat → Nat) (L : Nat) (T : Nat → Nat) (e w : Nat) (hσ : SG S n U b V L T e) (q : Int32) (W : va_W) (hI : XI ca g S n U b V L T e w W) : UP l D ca yX5_soloSteps wsX5_soloSteps 5 132 0 0 W [.ref g, .int q] (fun v W1 => v = some (.int (ansP (S 1) q (fun j => nI (runN 16 S j)))) ∧ XI ca g S n U b V L T e w W1) := by
  have hI0 := hI
  obtain ⟨pr, sc, sa, sl, sch, tx, ip, ic, sv, Z, UU, c, P, K, vW, vT, o0, o1, wS, wE, rfl, hU, hS, hE⟩ := hI
  refine UP.core (c_X5_soloSteps l D ca g pr sc sa sl sch n vW vT S Z q hσ.1) (xcore ca g pr sc sa sl sch tx ip ic sv S Z UU n L c T P K vW vT o0 o1) [(sa, .inl (ca 4, 8, .inr (.inr (.inr (.inr (qo [some (sv 0), some (sv 1), some (sv 2), some (sv 3), some (sv 4), some (sv 5), some (sv 6), some (sv 7)])))))), (sv 0, .inr (2, cS (UU 0))), (sv 1, .inr (2, cS (UU 1))), (sv 2, .inr (2, cS (UU 2))), (sv 3, .inr (2, cS (UU 3))), (sv 4, .inr (2, cS (UU 4))), (sv 5, .inr (2, cS (UU 5))), (sv 6, .inr (2, cS (UU 6))), (sv 7, .inr (2, cS (UU 7))), (sch, .inr (1, [.ref tx, .int (nI L), .ref ip, .ref ic, .int (nI c)])), (tx, .inl (ca 2, 80, .inl (rwN T))), (ip, .inl (ca 0, 40, .inl (rwN P))), (ic, .inl (ca 0, 40, .inl (rwN K))), (sl, .inl (ca 4, 2, .inr (.inr (.inr (.inr (qo [o0, o1]))))))] [0, 1, 2] [3, 4, 5, 6, 7, 8, 9, 10, 11, 12, 13, 14, 15, 16] rfl rfl (by decide) (by decide) (wS ++ wE) ?_
  rintro v W1 ⟨rfl, Z2, rfl⟩
  exact ⟨(xcore ca g pr sc sa sl sch tx ip ic sv S Z2 UU n L c T P K vW vT o0 o1), [14, 15, 16, 0, 1, 2, 3, 4, 5, 6, 7, 8, 9, 10, 11, 12, 13], by decide, rfl, rfl, ⟨pr, sc, sa, sl, sch, tx, ip, ic, sv, Z2, UU, c, P, K, vW, vT, o0, o1, wS, wE, rfl, hU, hS, hE⟩⟩

set_option maxHeartbeats 2000000 in
set_option maxRecDepth 20000 in
theorem x_soloName (l : Launch) (D : va_G) (ca : Nat → ClassId) (g : Nat) (S : Nat → Nat) (n : Nat) (U : Nat → Nat → Nat) (b : Nat → Nat) (V : Nat → Nat → Nat) (L : Nat) (T : Nat → Nat) (e w : Nat) (hσ : SG S n U b V L T e) (q : Int32) (W : va_W) (hI : XI ca g S n U b V L T e w W) : UP l D ca yX5_soloName wsX5_soloName 5 132 0 0 W [.ref g, .int q] (fun v W1 => v = some (.int (ansP (S 1) q (fun j => nmC (runS 16 S j 3) j))) ∧ XI ca g S n U b V L T e w W1) := by
  have hI0 := hI
  obtain ⟨pr, sc, sa, sl, sch, tx, ip, ic, sv, Z, UU, c, P, K, vW, vT, o0, o1, wS, wE, rfl, hU, hS, hE⟩ := hI
  refine UP.core (c_X5_soloName l D ca g pr sc sa sl sch n vW vT S Z q hσ.1) (xcore ca g pr sc sa sl sch tx ip ic sv S Z UU n L c T P K vW vT o0 o1) [(sa, .inl (ca 4, 8, .inr (.inr (.inr (.inr (qo [some (sv 0), some (sv 1), some (sv 2), some (sv 3), some (sv 4), some (sv 5), some (sv 6), some (sv 7)])))))), (sv 0, .inr (2, cS (UU 0))), (sv 1, .inr (2, cS (UU 1))), (sv 2, .inr (2, cS (UU 2))), (sv 3, .inr (2, cS (UU 3))), (sv 4, .inr (2, cS (UU 4))), (sv 5, .inr (2, cS (UU 5))), (sv 6, .inr (2, cS (UU 6))), (sv 7, .inr (2, cS (UU 7))), (sch, .inr (1, [.ref tx, .int (nI L), .ref ip, .ref ic, .int (nI c)])), (tx, .inl (ca 2, 80, .inl (rwN T))), (ip, .inl (ca 0, 40, .inl (rwN P))), (ic, .inl (ca 0, 40, .inl (rwN K))), (sl, .inl (ca 4, 2, .inr (.inr (.inr (.inr (qo [o0, o1]))))))] [0, 1, 2] [3, 4, 5, 6, 7, 8, 9, 10, 11, 12, 13, 14, 15, 16] rfl rfl (by decide) (by decide) (wS ++ wE) ?_
  rintro v W1 ⟨rfl, Z2, rfl⟩
  exact ⟨(xcore ca g pr sc sa sl sch tx ip ic sv S Z2 UU n L c T P K vW vT o0 o1), [14, 15, 16, 0, 1, 2, 3, 4, 5, 6, 7, 8, 9, 10, 11, 12, 13], by decide, rfl, rfl, ⟨pr, sc, sa, sl, sch, tx, ip, ic, sv, Z2, UU, c, P, K, vW, vT, o0, o1, wS, wE, rfl, hU, hS, hE⟩⟩

set_option maxHeartbeats 2000000 in
set_option maxRecDepth 20000 in
theorem x_configure (l : Launch) (D : va_G) (ca : Nat → ClassId) (g : Nat) (S : Nat → Nat) (n : Nat) (U : Nat → Nat → Nat) (b : Nat → Nat) (V : Nat → Nat → Nat) (L : Nat) (T : Nat → Nat) (e w : Nat) (hσ : SG S n U b V L T e) (a b2 c2 : Int32) (W : va_W) (hI : XI ca g S n U b V L T e w W) : UP l D ca yX5_configure wsX5_configure 2 46 0 0 W [.ref g, .int a, .int b2, .int c2] (fun v W1 => v = some (.int (ansCfg a b2 c2)) ∧ ((cfgOK a b2 c2 ∧ XI ca g (begS a.toNatClampNeg b2.toNatClampNeg c2.toNatClampNeg) (kpN n) (kU n U S) b V L T 0 w W1) ∨ (¬ (cfgOK a b2 c2) ∧ XI ca g S n U b V L T e w W1))) := by
  have hI0 := hI
  obtain ⟨pr, sc, sa, sl, sch, tx, ip, ic, sv, Z, UU, c, P, K, vW, vT, o0, o1, wS, wE, rfl, hU, hS, hE⟩ := hI
  refine UP.core (c_X5_configure l D ca g pr sc sa sl sch n vW vT sv UU S hσ.2.1 a b2 c2) (xcore ca g pr sc sa sl sch tx ip ic sv S Z UU n L c T P K vW vT o0 o1) [(sc, .inr (2, cS Z)), (sch, .inr (1, [.ref tx, .int (nI L), .ref ip, .ref ic, .int (nI c)])), (tx, .inl (ca 2, 80, .inl (rwN T))), (ip, .inl (ca 0, 40, .inl (rwN P))), (ic, .inl (ca 0, 40, .inl (rwN K))), (sl, .inl (ca 4, 2, .inr (.inr (.inr (.inr (qo [o0, o1]))))))] [0, 1, 3, 4, 5, 6, 7, 8, 9, 10, 11] [2, 12, 13, 14, 15, 16] rfl rfl (by decide) (by decide) (wS ++ wE) ?_
  rintro v W1 ⟨rfl, ⟨hok, sv2, U2, n2, rfl, hkp⟩ | ⟨hno, rfl⟩⟩
  · obtain ⟨rfl, hU2⟩ := kp_ok hkp hU
    exact ⟨(xcore ca g pr sc sa sl sch tx ip ic sv2 ((begS a.toNatClampNeg b2.toNatClampNeg c2.toNatClampNeg)) Z U2 ((kpN n)) L c T P K vW .null o0 o1), [6, 7, 0, 8, 9, 10, 11, 12, 13, 14, 15, 16, 1, 2, 3, 4, 5], by decide, rfl, rfl, Or.inl ⟨hok, ⟨pr, sc, sa, sl, sch, tx, ip, ic, sv2, Z, U2, c, P, K, vW, .null, o0, o1, wS, wE, rfl, hU2, hS, EX_0 hE⟩⟩⟩
  · exact ⟨(xcore ca g pr sc sa sl sch tx ip ic sv S Z UU n L c T P K vW vT o0 o1), [6, 7, 0, 8, 9, 10, 11, 12, 13, 14, 15, 16, 1, 2, 3, 4, 5], by decide, rfl, rfl, Or.inr ⟨hno, ⟨pr, sc, sa, sl, sch, tx, ip, ic, sv, Z, UU, c, P, K, vW, vT, o0, o1, wS, wE, rfl, hU, hS, hE⟩⟩⟩

set_option maxHeartbeats 2000000 in
set_option maxRecDepth 20000 in
theorem x_step (l : Launch) (D : va_G) (ca : Nat → ClassId) (g : Nat) (S : Nat → Nat) (n : Nat) (U : Nat → Nat → Nat) (b : Nat → Nat) (V : Nat → Nat → Nat) (L : Nat) (T : Nat → Nat) (e w : Nat) (hσ : SG S n U b V L T e) (q : Int32) (W : va_W) (hI : XI ca g S n U b V L T e w W) : UP l D ca yX5_step wsX5_step 4 109 0 0 W [.ref g, .int q] (fun v W1 => v = some (.int (ansStep S q)) ∧ ((stepOK S q ∧ XI ca g (advS S q.toNatClampNeg) (kpN n) (kU n U S) b V L T 0 w W1) ∨ (¬ (stepOK S q) ∧ XI ca g S n U b V L T e w W1))) := by
  have hI0 := hI
  obtain ⟨pr, sc, sa, sl, sch, tx, ip, ic, sv, Z, UU, c, P, K, vW, vT, o0, o1, wS, wE, rfl, hU, hS, hE⟩ := hI
  refine UP.core (c_X5_step l D ca g pr sc sa sl sch n vW vT sv UU S hσ.2.1 hσ.1 q) (xcore ca g pr sc sa sl sch tx ip ic sv S Z UU n L c T P K vW vT o0 o1) [(sc, .inr (2, cS Z)), (sch, .inr (1, [.ref tx, .int (nI L), .ref ip, .ref ic, .int (nI c)])), (tx, .inl (ca 2, 80, .inl (rwN T))), (ip, .inl (ca 0, 40, .inl (rwN P))), (ic, .inl (ca 0, 40, .inl (rwN K))), (sl, .inl (ca 4, 2, .inr (.inr (.inr (.inr (qo [o0, o1]))))))] [0, 1, 3, 4, 5, 6, 7, 8, 9, 10, 11] [2, 12, 13, 14, 15, 16] rfl rfl (by decide) (by decide) (wS ++ wE) ?_
  rintro v W1 ⟨rfl, ⟨hok, sv2, U2, n2, rfl, hkp⟩ | ⟨hno, rfl⟩⟩
  · obtain ⟨rfl, hU2⟩ := kp_ok hkp hU
    exact ⟨(xcore ca g pr sc sa sl sch tx ip ic sv2 ((advS S q.toNatClampNeg)) Z U2 ((kpN n)) L c T P K vW .null o0 o1), [6, 7, 0, 8, 9, 10, 11, 12, 13, 14, 15, 16, 1, 2, 3, 4, 5], by decide, rfl, rfl, Or.inl ⟨hok, ⟨pr, sc, sa, sl, sch, tx, ip, ic, sv2, Z, U2, c, P, K, vW, .null, o0, o1, wS, wE, rfl, hU2, hS, EX_0 hE⟩⟩⟩
  · exact ⟨(xcore ca g pr sc sa sl sch tx ip ic sv S Z UU n L c T P K vW vT o0 o1), [6, 7, 0, 8, 9, 10, 11, 12, 13, 14, 15, 16, 1, 2, 3, 4, 5], by decide, rfl, rfl, Or.inr ⟨hno, ⟨pr, sc, sa, sl, sch, tx, ip, ic, sv, Z, UU, c, P, K, vW, vT, o0, o1, wS, wE, rfl, hU, hS, hE⟩⟩⟩

set_option maxHeartbeats 2000000 in
set_option maxRecDepth 20000 in
theorem x_crash (l : Launch) (D : va_G) (ca : Nat → ClassId) (g : Nat) (S : Nat → Nat) (n : Nat) (U : Nat → Nat → Nat) (b : Nat → Nat) (V : Nat → Nat → Nat) (L : Nat) (T : Nat → Nat) (e w : Nat) (hσ : SG S n U b V L T e) (q : Int32) (W : va_W) (hI : XI ca g S n U b V L T e w W) : UP l D ca yX5_crash wsX5_crash 3 65 0 0 W [.ref g, .int q] (fun v W1 => v = some (.int (ansCrash S q)) ∧ ((stepOK S q ∧ XI ca g (crsS S q.toNatClampNeg) (kpN n) (kU n U S) b V L T 0 w W1) ∨ (¬ (stepOK S q) ∧ XI ca g S n U b V L T e w W1))) := by
  have hI0 := hI
  obtain ⟨pr, sc, sa, sl, sch, tx, ip, ic, sv, Z, UU, c, P, K, vW, vT, o0, o1, wS, wE, rfl, hU, hS, hE⟩ := hI
  refine UP.core (c_X5_crash l D ca g pr sc sa sl sch n vW vT sv UU S hσ.2.1 hσ.1 q) (xcore ca g pr sc sa sl sch tx ip ic sv S Z UU n L c T P K vW vT o0 o1) [(sc, .inr (2, cS Z)), (sch, .inr (1, [.ref tx, .int (nI L), .ref ip, .ref ic, .int (nI c)])), (tx, .inl (ca 2, 80, .inl (rwN T))), (ip, .inl (ca 0, 40, .inl (rwN P))), (ic, .inl (ca 0, 40, .inl (rwN K))), (sl, .inl (ca 4, 2, .inr (.inr (.inr (.inr (qo [o0, o1]))))))] [0, 1, 3, 4, 5, 6, 7, 8, 9, 10, 11] [2, 12, 13, 14, 15, 16] rfl rfl (by decide) (by decide) (wS ++ wE) ?_
  rintro v W1 ⟨rfl, ⟨hok, sv2, U2, n2, rfl, hkp⟩ | ⟨hno, rfl⟩⟩
  · obtain ⟨rfl, hU2⟩ := kp_ok hkp hU
    exact ⟨(xcore ca g pr sc sa sl sch tx ip ic sv2 ((crsS S q.toNatClampNeg)) Z U2 ((kpN n)) L c T P K vW .null o0 o1), [6, 7, 0, 8, 9, 10, 11, 12, 13, 14, 15, 16, 1, 2, 3, 4, 5], by decide, rfl, rfl, Or.inl ⟨hok, ⟨pr, sc, sa, sl, sch, tx, ip, ic, sv2, Z, U2, c, P, K, vW, .null, o0, o1, wS, wE, rfl, hU2, hS, EX_0 hE⟩⟩⟩
  · exact ⟨(xcore ca g pr sc sa sl sch tx ip ic sv S Z UU n L c T P K vW vT o0 o1), [6, 7, 0, 8, 9, 10, 11, 12, 13, 14, 15, 16, 1, 2, 3, 4, 5], by decide, rfl, rfl, Or.inr ⟨hno, ⟨pr, sc, sa, sl, sch, tx, ip, ic, sv, Z, UU, c, P, K, vW, vT, o0, o1, wS, wE, rfl, hU, hS, hE⟩⟩⟩

set_option maxHeartbeats 2000000 in
set_option maxRecDepth 20000 in
theorem x_undo (l : Launch) (D : va_G) (ca : Nat → ClassId) (g : Nat) (S : Nat → Nat) (n : Nat) (U : Nat → Nat → Nat) (b : Nat → Nat) (V : Nat → Nat → Nat) (L : Nat) (T : Nat → Nat) (e w : Nat) (hσ : SG S n U b V L T e) (W : va_W) (hI : XI ca g S n U b V L T e w W) : UP l D ca yX5_undo wsX5_undo 1 21 0 0 W [.ref g] (fun v W1 => (n = 0 ∧ v = some (.int (-2)) ∧ XI ca g S n U b V L T e w W1) ∨ (0 < n ∧ v = some (.int (nI (n - 1))) ∧ XI ca g (U (n - 1)) (n - 1) U b V L T 0 w W1)) := by
  have hI0 := hI
  obtain ⟨pr, sc, sa, sl, sch, tx, ip, ic, sv, Z, UU, c, P, K, vW, vT, o0, o1, wS, wE, rfl, hU, hS, hE⟩ := hI
  refine UP.core (c_X5_undo l D ca g pr sc sa sl sch n vW vT sv UU S hσ.2.1) (xcore ca g pr sc sa sl sch tx ip ic sv S Z UU n L c T P K vW vT o0 o1) [(sc, .inr (2, cS Z)), (sch, .inr (1, [.ref tx, .int (nI L), .ref ip, .ref ic, .int (nI c)])), (tx, .inl (ca 2, 80, .inl (rwN T))), (ip, .inl (ca 0, 40, .inl (rwN P))), (ic, .inl (ca 0, 40, .inl (rwN K))), (sl, .inl (ca 4, 2, .inr (.inr (.inr (.inr (qo [o0, o1]))))))] [0, 1, 3, 4, 5, 6, 7, 8, 9, 10, 11] [2, 12, 13, 14, 15, 16] rfl rfl (by decide) (by decide) (wS ++ wE) ?_
  rintro v W1 (⟨h0, rfl, rfl⟩ | ⟨h0, rfl, rfl⟩)
  · exact ⟨(xcore ca g pr sc sa sl sch tx ip ic sv S Z UU n L c T P K vW vT o0 o1), [6, 7, 0, 8, 9, 10, 11, 12, 13, 14, 15, 16, 1, 2, 3, 4, 5], by decide, rfl, Or.inl ⟨h0, rfl, ⟨pr, sc, sa, sl, sch, tx, ip, ic, sv, Z, UU, c, P, K, vW, vT, o0, o1, wS, wE, rfl, hU, hS, hE⟩⟩⟩
  · refine ⟨(xcore ca g pr sc sa sl sch tx ip ic sv ((UU (n - 1))) Z UU ((n - 1)) L c T P K vW .null o0 o1), [6, 7, 0, 8, 9, 10, 11, 12, 13, 14, 15, 16, 1, 2, 3, 4, 5], by decide, rfl, Or.inr ⟨h0, rfl, ⟨pr, sc, sa, sl, sch, tx, ip, ic, sv, Z, UU, c, P, K, vW, .null, o0, o1, wS, wE, ?_, fun i hi => hU i (by omega), hS, EX_0 hE⟩⟩⟩
    rw [hU (n - 1) (by omega)]

set_option maxHeartbeats 2000000 in
set_option maxRecDepth 20000 in
theorem x_append (l : Launch) (D : va_G) (ca : Nat → ClassId) (g : Nat) (S : Nat → Nat) (n : Nat) (U : Nat → Nat → Nat) (b : Nat → Nat) (V : Nat → Nat → Nat) (L : Nat) (T : Nat → Nat) (e w : Nat) (hσ : SG S n U b V L T e) (q : Int32) (W : va_W) (hI : XI ca g S n U b V L T e w W) : UP l D ca yX5_append wsX5_append 2 41 0 0 W [.ref g, .int q] (fun v W1 => v = some (.int (ansApp L q)) ∧ (((chrOK q ∧ L < 80) ∧ XI ca g S n U b V (L + 1) (va_up T L q.toNatClampNeg) e w W1) ∨ (¬ (chrOK q ∧ L < 80) ∧ XI ca g S n U b V L T e w W1))) := by
  have hI0 := hI
  obtain ⟨pr, sc, sa, sl, sch, tx, ip, ic, sv, Z, UU, c, P, K, vW, vT, o0, o1, wS, wE, rfl, hU, hS, hE⟩ := hI
  refine UP.core (c_X5_append l D ca g pr sc sa sl sch n vW vT tx ip ic L c T q hσ.2.2.2.2.1) (xcore ca g pr sc sa sl sch tx ip ic sv S Z UU n L c T P K vW vT o0 o1) [(pr, .inr (2, cS S)), (sc, .inr (2, cS Z)), (sa, .inl (ca 4, 8, .inr (.inr (.inr (.inr (qo [some (sv 0), some (sv 1), some (sv 2), some (sv 3), some (sv 4), some (sv 5), some (sv 6), some (sv 7)])))))), (sv 0, .inr (2, cS (UU 0))), (sv 1, .inr (2, cS (UU 1))), (sv 2, .inr (2, cS (UU 2))), (sv 3, .inr (2, cS (UU 3))), (sv 4, .inr (2, cS (UU 4))), (sv 5, .inr (2, cS (UU 5))), (sv 6, .inr (2, cS (UU 6))), (sv 7, .inr (2, cS (UU 7))), (ip, .inl (ca 0, 40, .inl (rwN P))), (ic, .inl (ca 0, 40, .inl (rwN K))), (sl, .inl (ca 4, 2, .inr (.inr (.inr (.inr (qo [o0, o1]))))))] [0, 12, 13] [1, 2, 3, 4, 5, 6, 7, 8, 9, 10, 11, 14, 15, 16] rfl rfl (by decide) (by decide) (wS ++ wE) ?_
  rintro v W1 ⟨rfl, ⟨hc, rfl⟩ | ⟨hc, rfl⟩⟩
  · exact ⟨(xcore ca g pr sc sa sl sch tx ip ic sv S Z UU n ((L + 1)) c ((va_up T L q.toNatClampNeg)) P K vW vT o0 o1), [14, 0, 1, 2, 3, 4, 5, 6, 7, 8, 9, 10, 15, 16, 11, 12, 13], by decide, rfl, rfl, Or.inl ⟨hc, ⟨pr, sc, sa, sl, sch, tx, ip, ic, sv, Z, UU, c, P, K, vW, vT, o0, o1, wS, wE, rfl, hU, hS, hE⟩⟩⟩
  · exact ⟨(xcore ca g pr sc sa sl sch tx ip ic sv S Z UU n L c T P K vW vT o0 o1), [14, 0, 1, 2, 3, 4, 5, 6, 7, 8, 9, 10, 15, 16, 11, 12, 13], by decide, rfl, rfl, Or.inr ⟨hc, ⟨pr, sc, sa, sl, sch, tx, ip, ic, sv, Z, UU, c, P, K, vW, vT, o0, o1, wS, wE, rfl, hU, hS, hE⟩⟩⟩

set_option maxHeartbeats 2000000 in
set_option maxRecDepth 20000 in
theorem x_clearText (l : Launch) (D : va_G) (ca : Nat → ClassId) (g : Nat) (S : Nat → Nat) (n : Nat) (U : Nat → Nat → Nat) (b : Nat → Nat) (V : Nat → Nat → Nat) (L : Nat) (T : Nat → Nat) (e w : Nat) (hσ : SG S n U b V L T e) (W : va_W) (hI : XI ca g S n U b V L T e w W) : UP l D ca yX5_clearText wsX5_clearText 1 21 0 0 W [.ref g] (fun v W1 => v = some (.int (nI L)) ∧ XI ca g S n U b V 0 T e w W1) := by
  have hI0 := hI
  obtain ⟨pr, sc, sa, sl, sch, tx, ip, ic, sv, Z, UU, c, P, K, vW, vT, o0, o1, wS, wE, rfl, hU, hS, hE⟩ := hI
  refine UP.core (c_X5_clearText l D ca g pr sc sa sl sch n vW vT tx ip ic L c) (xcore ca g pr sc sa sl sch tx ip ic sv S Z UU n L c T P K vW vT o0 o1) [(pr, .inr (2, cS S)), (sc, .inr (2, cS Z)), (sa, .inl (ca 4, 8, .inr (.inr (.inr (.inr (qo [some (sv 0), some (sv 1), some (sv 2), some (sv 3), some (sv 4), some (sv 5), some (sv 6), some (sv 7)])))))), (sv 0, .inr (2, cS (UU 0))), (sv 1, .inr (2, cS (UU 1))), (sv 2, .inr (2, cS (UU 2))), (sv 3, .inr (2, cS (UU 3))), (sv 4, .inr (2, cS (UU 4))), (sv 5, .inr (2, cS (UU 5))), (sv 6, .inr (2, cS (UU 6))), (sv 7, .inr (2, cS (UU 7))), (tx, .inl (ca 2, 80, .inl (rwN T))), (ip, .inl (ca 0, 40, .inl (rwN P))), (ic, .inl (ca 0, 40, .inl (rwN K))), (sl, .inl (ca 4, 2, .inr (.inr (.inr (.inr (qo [o0, o1]))))))] [0, 12] [1, 2, 3, 4, 5, 6, 7, 8, 9, 10, 11, 13, 14, 15, 16] rfl rfl (by decide) (by decide) (wS ++ wE) ?_
  rintro v W1 ⟨rfl, rfl⟩
  exact ⟨(xcore ca g pr sc sa sl sch tx ip ic sv S Z UU n 0 c T P K vW vT o0 o1), [15, 0, 1, 2, 3, 4, 5, 6, 7, 8, 9, 10, 16, 11, 12, 13, 14], by decide, rfl, rfl, ⟨pr, sc, sa, sl, sch, tx, ip, ic, sv, Z, UU, c, P, K, vW, vT, o0, o1, wS, wE, rfl, hU, hS, hE⟩⟩


set_option maxHeartbeats 2000000 in
set_option maxRecDepth 20000 in
theorem x_runText (l : Launch) (D : va_G) (ca : Nat → ClassId) (g : Nat) (S : Nat → Nat) (n : Nat) (U : Nat → Nat → Nat) (b : Nat → Nat) (V : Nat → Nat → Nat) (L : Nat) (T : Nat → Nat) (e w : Nat) (hσ : SG S n U b V L T e) (W : va_W) (hI : XI ca g S n U b V L T e w W) : UP l D ca yX5_runText wsX5_runText 6 155 0 0 W [.ref g] (fun v W1 => ∃ P0 K0 : Nat → Nat, ((rdF T L (S 1) L 0 0 (0, P0, K0)).1 = 0 → v = some (.int (nI (exN (rdF T L (S 1) L 0 0 (0, P0, K0)).2 (rdF T L (S 1) L 0 0 (0, P0, K0)).2.1 0 S))) ∧ XI ca g (exS (rdF T L (S 1) L 0 0 (0, P0, K0)).2 (rdF T L (S 1) L 0 0 (0, P0, K0)).2.1 0 S) (kpN n) (kU n U S) b V 0 T 0 w W1) ∧ (¬ (rdF T L (S 1) L 0 0 (0, P0, K0)).1 = 0 → v = some (.int (-10 - nI ((rdF T L (S 1) L 0 0 (0, P0, K0)).1 - 1))) ∧ XI ca g S n U b V L T e w W1)) := by
  have hI0 := hI
  obtain ⟨pr, sc, sa, sl, sch, tx, ip, ic, sv, Z, UU, c, P, K, vW, vT, o0, o1, wS, wE, rfl, hU, hS, hE⟩ := hI
  refine UP.core (c_X5_runText l D ca g pr sc sa sl sch n vW vT sv UU S hσ.2.1 hσ.1 tx ip ic L c T P K hσ.2.2.2.2.1 hσ.2.2.2.2.2.1) (xcore ca g pr sc sa sl sch tx ip ic sv S Z UU n L c T P K vW vT o0 o1) [(sc, .inr (2, cS Z)), (sl, .inl (ca 4, 2, .inr (.inr (.inr (.inr (qo [o0, o1]))))))] [0, 1, 3, 4, 5, 6, 7, 8, 9, 10, 11, 12, 13, 14, 15] [2, 16] rfl rfl (by decide) (by decide) (wS ++ wE) ?_
  rintro v W1 ⟨hy, hn⟩
  by_cases hR : (rdF T L (S 1) L 0 0 (0, P, K)).1 = 0
  · obtain ⟨rfl, sv2, U2, n2, c2, P2, K2, rfl, hkp⟩ := hy hR
    obtain ⟨rfl, hU2⟩ := kp_ok hkp hU
    exact ⟨(xcore ca g pr sc sa sl sch tx ip ic sv2 ((exS (rdF T L (S 1) L 0 0 (0, P, K)).2 (rdF T L (S 1) L 0 0 (0, P, K)).2.1 0 S)) Z U2 ((kpN n)) 0 c2 T P2 K2 vW .null o0 o1), [2, 3, 0, 4, 5, 6, 7, 8, 9, 10, 11, 12, 13, 14, 15, 16, 1], by decide, rfl, P, K, fun _ => ⟨rfl, ⟨pr, sc, sa, sl, sch, tx, ip, ic, sv2, Z, U2, c2, P2, K2, vW, .null, o0, o1, wS, wE, rfl, hU2, hS, EX_0 hE⟩⟩, fun z => absurd hR z⟩
  · obtain ⟨rfl, c2, P2, K2, rfl⟩ := hn hR
    exact ⟨(xcore ca g pr sc sa sl sch tx ip ic sv S Z UU n L c2 T P2 K2 vW vT o0 o1), [2, 3, 0, 4, 5, 6, 7, 8, 9, 10, 11, 12, 13, 14, 15, 16, 1], by decide, rfl, P, K, fun z => absurd z hR, fun _ => ⟨rfl, ⟨pr, sc, sa, sl, sch, tx, ip, ic, sv, Z, UU, c2, P2, K2, vW, vT, o0, o1, wS, wE, rfl, hU, hS, hE⟩⟩⟩

set_option maxHeartbeats 2000000 in
set_option maxRecDepth 20000 in
theorem x_save (l : Launch) (D : va_G) (ca : Nat → ClassId) (g : Nat) (S : Nat → Nat) (n : Nat) (U : Nat → Nat → Nat) (b : Nat → Nat) (V : Nat → Nat → Nat) (L : Nat) (T : Nat → Nat) (e w : Nat) (hσ : SG S n U b V L T e) (q : Int32) (W : va_W) (hI : XI ca g S n U b V L T e w W) : UP l D ca yX5_save wsX5_save 3 65 1 8 W [.ref g, .int q] (fun v W1 => (¬ inR 2 q ∧ v = some (.int (-1)) ∧ XI ca g S n U b V L T e w W1) ∨ (∃ j, j < 2 ∧ q = nI j ∧ v = some (.int (nI (runC (S 3) (S 1)))) ∧ XI ca g S n U (va_up b j 1) (va_up V j S) L T e w W1)) := by
  have hI0 := hI
  obtain ⟨pr, sc, sa, sl, sch, tx, ip, ic, sv, Z, UU, c, P, K, vW, vT, o0, o1, wS, wE, rfl, hU, hS, hE⟩ := hI
  rcases hS with ⟨hb0, hb1, rfl, rfl, rfl⟩ | ⟨hb0, hb1, z1, rfl, rfl, rfl⟩ | ⟨hb0, hb1, z0, rfl, rfl, rfl⟩ | ⟨hb0, hb1, z0, z1, rfl, rfl, rfl⟩
  · refine UP.core (c_X5_save_00 l D ca g pr sc sa sl sch n vW vT 0 0 (V 0) (V 1) S hσ.1 q) ((xcore ca g pr sc sa sl sch tx ip ic sv S Z UU n L c T P K vW vT ((none)) ((none))) ++ []) [(sc, .inr (2, cS Z)), (sa, .inl (ca 4, 8, .inr (.inr (.inr (.inr (qo [some (sv 0), some (sv 1), some (sv 2), some (sv 3), some (sv 4), some (sv 5), some (sv 6), some (sv 7)])))))), (sv 0, .inr (2, cS (UU 0))), (sv 1, .inr (2, cS (UU 1))), (sv 2, .inr (2, cS (UU 2))), (sv 3, .inr (2, cS (UU 3))), (sv 4, .inr (2, cS (UU 4))), (sv 5, .inr (2, cS (UU 5))), (sv 6, .inr (2, cS (UU 6))), (sv 7, .inr (2, cS (UU 7))), (sch, .inr (1, [.ref tx, .int (nI L), .ref ip, .ref ic, .int (nI c)])), (tx, .inl (ca 2, 80, .inl (rwN T))), (ip, .inl (ca 0, 40, .inl (rwN P))), (ic, .inl (ca 0, 40, .inl (rwN K)))] [0, 1, 16] [2, 3, 4, 5, 6, 7, 8, 9, 10, 11, 12, 13, 14, 15] rfl rfl (by decide) (by decide) wE ?_
    rintro v W1 (⟨hq, rfl, rfl⟩ | ⟨hq, rfl, y, rfl⟩ | ⟨hq, rfl, y, rfl⟩)
    · exact ⟨((xcore ca g pr sc sa sl sch tx ip ic sv S Z UU n L c T P K vW vT ((none)) ((none))) ++ []), [14, 15, 0, 1, 2, 3, 4, 5, 6, 7, 8, 9, 10, 11, 12, 13, 16], by decide, rfl, Or.inl ⟨hq, rfl, ⟨pr, sc, sa, sl, sch, tx, ip, ic, sv, Z, UU, c, P, K, vW, vT, (none), (none), [], wE, rfl, hU, Or.inl ⟨hb0, hb1, rfl, rfl, rfl⟩, hE⟩⟩⟩
    · exact ⟨(xcore ca g pr sc sa sl sch tx ip ic sv S Z UU n L c T P K vW vT ((some y)) ((none))) ++ [(y, .inr (2, cS (S)))], [14, 15, 0, 1, 2, 3, 4, 5, 6, 7, 8, 9, 10, 11, 12, 13, 16, 17], by decide, rfl, Or.inr ⟨0, by decide, hq, rfl, ⟨pr, sc, sa, sl, sch, tx, ip, ic, sv, Z, UU, c, P, K, vW, vT, (some y), (none), [(y, .inr (2, cS (S)))], wE, rfl, hU, Or.inr (Or.inr (Or.inl ⟨rfl, hb1, y, rfl, rfl, rfl⟩)), hE⟩⟩⟩
    · exact ⟨(xcore ca g pr sc sa sl sch tx ip ic sv S Z UU n L c T P K vW vT ((none)) ((some y))) ++ [(y, .inr (2, cS (S)))], [14, 15, 0, 1, 2, 3, 4, 5, 6, 7, 8, 9, 10, 11, 12, 13, 16, 17], by decide, rfl, Or.inr ⟨1, by decide, hq, rfl, ⟨pr, sc, sa, sl, sch, tx, ip, ic, sv, Z, UU, c, P, K, vW, vT, (none), (some y), [(y, .inr (2, cS (S)))], wE, rfl, hU, Or.inr (Or.inl ⟨hb0, rfl, y, rfl, rfl, rfl⟩), hE⟩⟩⟩
  · refine UP.core (c_X5_save_01 l D ca g pr sc sa sl sch n vW vT 0 z1 (V 0) (V 1) S hσ.1 q) ((xcore ca g pr sc sa sl sch tx ip ic sv S Z UU n L c T P K vW vT ((none)) ((some z1))) ++ [(z1, .inr (2, cS (V 1)))]) [(sc, .inr (2, cS Z)), (sa, .inl (ca 4, 8, .inr (.inr (.inr (.inr (qo [some (sv 0), some (sv 1), some (sv 2), some (sv 3), some (sv 4), some (sv 5), some (sv 6), some (sv 7)])))))), (sv 0, .inr (2, cS (UU 0))), (sv 1, .inr (2, cS (UU 1))), (sv 2, .inr (2, cS (UU 2))), (sv 3, .inr (2, cS (UU 3))), (sv 4, .inr (2, cS (UU 4))), (sv 5, .inr (2, cS (UU 5))), (sv 6, .inr (2, cS (UU 6))), (sv 7, .inr (2, cS (UU 7))), (sch, .inr (1, [.ref tx, .int (nI L), .ref ip, .ref ic, .int (nI c)])), (tx, .inl (ca 2, 80, .inl (rwN T))), (ip, .inl (ca 0, 40, .inl (rwN P))), (ic, .inl (ca 0, 40, .inl (rwN K)))] [0, 1, 16, 17] [2, 3, 4, 5, 6, 7, 8, 9, 10, 11, 12, 13, 14, 15] rfl rfl (by decide) (by decide) wE ?_
    rintro v W1 (⟨hq, rfl, rfl⟩ | ⟨hq, rfl, y, rfl⟩ | ⟨hq, rfl, y, rfl⟩)
    · exact ⟨((xcore ca g pr sc sa sl sch tx ip ic sv S Z UU n L c T P K vW vT ((none)) ((some z1))) ++ [(z1, .inr (2, cS (V 1)))]), [14, 15, 0, 1, 2, 3, 4, 5, 6, 7, 8, 9, 10, 11, 12, 13, 16, 17], by decide, rfl, Or.inl ⟨hq, rfl, ⟨pr, sc, sa, sl, sch, tx, ip, ic, sv, Z, UU, c, P, K, vW, vT, (none), (some z1), [(z1, .inr (2, cS (V 1)))], wE, rfl, hU, Or.inr (Or.inl ⟨hb0, hb1, z1, rfl, rfl, rfl⟩), hE⟩⟩⟩
    · exact ⟨(xcore ca g pr sc sa sl sch tx ip ic sv S Z UU n L c T P K vW vT ((some y)) ((some z1))) ++ [(y, .inr (2, cS (S))), (z1, .inr (2, cS (V 1)))], [14, 15, 0, 1, 2, 3, 4, 5, 6, 7, 8, 9, 10, 11, 12, 13, 16, 17, 18], by decide, rfl, Or.inr ⟨0, by decide, hq, rfl, ⟨pr, sc, sa, sl, sch, tx, ip, ic, sv, Z, UU, c, P, K, vW, vT, (some y), (some z1), [(y, .inr (2, cS (S))), (z1, .inr (2, cS (V 1)))], wE, rfl, hU, Or.inr (Or.inr (Or.inr ⟨rfl, hb1, y, z1, rfl, rfl, rfl⟩)), hE⟩⟩⟩
    · exact ⟨(xcore ca g pr sc sa sl sch tx ip ic sv S Z UU n L c T P K vW vT ((none)) ((some y))) ++ [(y, .inr (2, cS (S)))], [14, 15, 0, 1, 2, 3, 4, 5, 6, 7, 8, 9, 10, 11, 12, 13, 16, 17], by decide, rfl, Or.inr ⟨1, by decide, hq, rfl, ⟨pr, sc, sa, sl, sch, tx, ip, ic, sv, Z, UU, c, P, K, vW, vT, (none), (some y), [(y, .inr (2, cS (S)))], wE, rfl, hU, Or.inr (Or.inl ⟨hb0, rfl, y, rfl, rfl, rfl⟩), hE⟩⟩⟩
  · refine UP.core (c_X5_save_10 l D ca g pr sc sa sl sch n vW vT z0 0 (V 0) (V 1) S hσ.1 q) ((xcore ca g pr sc sa sl sch tx ip ic sv S Z UU n L c T P K vW vT ((some z0)) ((none))) ++ [(z0, .inr (2, cS (V 0)))]) [(sc, .inr (2, cS Z)), (sa, .inl (ca 4, 8, .inr (.inr (.inr (.inr (qo [some (sv 0), some (sv 1), some (sv 2), some (sv 3), some (sv 4), some (sv 5), some (sv 6), some (sv 7)])))))), (sv 0, .inr (2, cS (UU 0))), (sv 1, .inr (2, cS (UU 1))), (sv 2, .inr (2, cS (UU 2))), (sv 3, .inr (2, cS (UU 3))), (sv 4, .inr (2, cS (UU 4))), (sv 5, .inr (2, cS (UU 5))), (sv 6, .inr (2, cS (UU 6))), (sv 7, .inr (2, cS (UU 7))), (sch, .inr (1, [.ref tx, .int (nI L), .ref ip, .ref ic, .int (nI c)])), (tx, .inl (ca 2, 80, .inl (rwN T))), (ip, .inl (ca 0, 40, .inl (rwN P))), (ic, .inl (ca 0, 40, .inl (rwN K)))] [0, 1, 16, 17] [2, 3, 4, 5, 6, 7, 8, 9, 10, 11, 12, 13, 14, 15] rfl rfl (by decide) (by decide) wE ?_
    rintro v W1 (⟨hq, rfl, rfl⟩ | ⟨hq, rfl, y, rfl⟩ | ⟨hq, rfl, y, rfl⟩)
    · exact ⟨((xcore ca g pr sc sa sl sch tx ip ic sv S Z UU n L c T P K vW vT ((some z0)) ((none))) ++ [(z0, .inr (2, cS (V 0)))]), [14, 15, 0, 1, 2, 3, 4, 5, 6, 7, 8, 9, 10, 11, 12, 13, 16, 17], by decide, rfl, Or.inl ⟨hq, rfl, ⟨pr, sc, sa, sl, sch, tx, ip, ic, sv, Z, UU, c, P, K, vW, vT, (some z0), (none), [(z0, .inr (2, cS (V 0)))], wE, rfl, hU, Or.inr (Or.inr (Or.inl ⟨hb0, hb1, z0, rfl, rfl, rfl⟩)), hE⟩⟩⟩
    · exact ⟨(xcore ca g pr sc sa sl sch tx ip ic sv S Z UU n L c T P K vW vT ((some y)) ((none))) ++ [(y, .inr (2, cS (S)))], [14, 15, 0, 1, 2, 3, 4, 5, 6, 7, 8, 9, 10, 11, 12, 13, 16, 17], by decide, rfl, Or.inr ⟨0, by decide, hq, rfl, ⟨pr, sc, sa, sl, sch, tx, ip, ic, sv, Z, UU, c, P, K, vW, vT, (some y), (none), [(y, .inr (2, cS (S)))], wE, rfl, hU, Or.inr (Or.inr (Or.inl ⟨rfl, hb1, y, rfl, rfl, rfl⟩)), hE⟩⟩⟩
    · exact ⟨(xcore ca g pr sc sa sl sch tx ip ic sv S Z UU n L c T P K vW vT ((some z0)) ((some y))) ++ [(z0, .inr (2, cS (V 0))), (y, .inr (2, cS (S)))], [14, 15, 0, 1, 2, 3, 4, 5, 6, 7, 8, 9, 10, 11, 12, 13, 16, 17, 18], by decide, rfl, Or.inr ⟨1, by decide, hq, rfl, ⟨pr, sc, sa, sl, sch, tx, ip, ic, sv, Z, UU, c, P, K, vW, vT, (some z0), (some y), [(z0, .inr (2, cS (V 0))), (y, .inr (2, cS (S)))], wE, rfl, hU, Or.inr (Or.inr (Or.inr ⟨hb0, rfl, z0, y, rfl, rfl, rfl⟩)), hE⟩⟩⟩
  · refine UP.core (c_X5_save_11 l D ca g pr sc sa sl sch n vW vT z0 z1 (V 0) (V 1) S hσ.1 q) ((xcore ca g pr sc sa sl sch tx ip ic sv S Z UU n L c T P K vW vT ((some z0)) ((some z1))) ++ [(z0, .inr (2, cS (V 0))), (z1, .inr (2, cS (V 1)))]) [(sc, .inr (2, cS Z)), (sa, .inl (ca 4, 8, .inr (.inr (.inr (.inr (qo [some (sv 0), some (sv 1), some (sv 2), some (sv 3), some (sv 4), some (sv 5), some (sv 6), some (sv 7)])))))), (sv 0, .inr (2, cS (UU 0))), (sv 1, .inr (2, cS (UU 1))), (sv 2, .inr (2, cS (UU 2))), (sv 3, .inr (2, cS (UU 3))), (sv 4, .inr (2, cS (UU 4))), (sv 5, .inr (2, cS (UU 5))), (sv 6, .inr (2, cS (UU 6))), (sv 7, .inr (2, cS (UU 7))), (sch, .inr (1, [.ref tx, .int (nI L), .ref ip, .ref ic, .int (nI c)])), (tx, .inl (ca 2, 80, .inl (rwN T))), (ip, .inl (ca 0, 40, .inl (rwN P))), (ic, .inl (ca 0, 40, .inl (rwN K)))] [0, 1, 16, 17, 18] [2, 3, 4, 5, 6, 7, 8, 9, 10, 11, 12, 13, 14, 15] rfl rfl (by decide) (by decide) wE ?_
    rintro v W1 (⟨hq, rfl, rfl⟩ | ⟨hq, rfl, y, rfl⟩ | ⟨hq, rfl, y, rfl⟩)
    · exact ⟨((xcore ca g pr sc sa sl sch tx ip ic sv S Z UU n L c T P K vW vT ((some z0)) ((some z1))) ++ [(z0, .inr (2, cS (V 0))), (z1, .inr (2, cS (V 1)))]), [14, 15, 0, 1, 2, 3, 4, 5, 6, 7, 8, 9, 10, 11, 12, 13, 16, 17, 18], by decide, rfl, Or.inl ⟨hq, rfl, ⟨pr, sc, sa, sl, sch, tx, ip, ic, sv, Z, UU, c, P, K, vW, vT, (some z0), (some z1), [(z0, .inr (2, cS (V 0))), (z1, .inr (2, cS (V 1)))], wE, rfl, hU, Or.inr (Or.inr (Or.inr ⟨hb0, hb1, z0, z1, rfl, rfl, rfl⟩)), hE⟩⟩⟩
    · exact ⟨(xcore ca g pr sc sa sl sch tx ip ic sv S Z UU n L c T P K vW vT ((some y)) ((some z1))) ++ [(y, .inr (2, cS (S))), (z1, .inr (2, cS (V 1)))], [14, 15, 0, 1, 2, 3, 4, 5, 6, 7, 8, 9, 10, 11, 12, 13, 16, 17, 18], by decide, rfl, Or.inr ⟨0, by decide, hq, rfl, ⟨pr, sc, sa, sl, sch, tx, ip, ic, sv, Z, UU, c, P, K, vW, vT, (some y), (some z1), [(y, .inr (2, cS (S))), (z1, .inr (2, cS (V 1)))], wE, rfl, hU, Or.inr (Or.inr (Or.inr ⟨rfl, hb1, y, z1, rfl, rfl, rfl⟩)), hE⟩⟩⟩
    · exact ⟨(xcore ca g pr sc sa sl sch tx ip ic sv S Z UU n L c T P K vW vT ((some z0)) ((some y))) ++ [(z0, .inr (2, cS (V 0))), (y, .inr (2, cS (S)))], [14, 15, 0, 1, 2, 3, 4, 5, 6, 7, 8, 9, 10, 11, 12, 13, 16, 17, 18], by decide, rfl, Or.inr ⟨1, by decide, hq, rfl, ⟨pr, sc, sa, sl, sch, tx, ip, ic, sv, Z, UU, c, P, K, vW, vT, (some z0), (some y), [(z0, .inr (2, cS (V 0))), (y, .inr (2, cS (S)))], wE, rfl, hU, Or.inr (Or.inr (Or.inr ⟨hb0, rfl, z0, y, rfl, rfl, rfl⟩)), hE⟩⟩⟩

set_option maxHeartbeats 4000000 in
set_option maxRecDepth 100000 in
theorem c_X5_restore_00w (l : Launch) (D : va_G) (ca : Nat → ClassId) (g pr sc sa sl sch : Nat) (nS : Nat) (vW vT : Value) (z0 z1 : Nat) (V0 V1 : Nat → Nat) (S : Nat → Nat) (hok : SOK S) (q : Int32) (hok0 : SOK V0) (hok1 : SOK V1) : UP l D ca yX5_restore wsX5_restore 3 65 0 0 [(g, .inr (3, [.ref pr, .ref sc, .ref sa, .int (nI nS), .ref sl, .ref sch, vW, vT])), (pr, .inr (2, cS S)), (sl, .inl (ca 4, 2, .inr (.inr (.inr (.inr (qo [none, none]))))))] [.ref g, .int q] (fun v W1 => (¬ inR 2 q ∧ v = some (.int (-1)) ∧ W1 = [(g, .inr (3, [.ref pr, .ref sc, .ref sa, .int (nI nS), .ref sl, .ref sch, vW, vT])), (pr, .inr (2, cS S)), (sl, .inl (ca 4, 2, .inr (.inr (.inr (.inr (qo [none, none]))))))]) ∨ (q = nI 0 ∧ v = some (.int (-2)) ∧ W1 = [(g, .inr (3, [.ref pr, .ref sc, .ref sa, .int (nI nS), .ref sl, .ref sch, vW, vT])), (pr, .inr (2, cS S)), (sl, .inl (ca 4, 2, .inr (.inr (.inr (.inr (qo [none, none]))))))]) ∨ (q = nI 1 ∧ v = some (.int (-2)) ∧ W1 = [(g, .inr (3, [.ref pr, .ref sc, .ref sa, .int (nI nS), .ref sl, .ref sch, vW, vT])), (pr, .inr (2, cS S)), (sl, .inl (ca 4, 2, .inr (.inr (.inr (.inr (qo [none, none]))))))])) := by
  refine UP.start (cc := cX5_restore) (maxL := 2) (ret := (some .int)) (by decide) rfl (Nat.le_of_ble_eq_true rfl) ?_
  intro p_ e_ s_ m_ below_ meth_ c_ A hx hb hml hr hlocks hin hown hts hK hA hP hD hS ls hl
  have hown : s_.vm.findClass RX5 = some m_.cls := hown
  have hl : lv_has ls 2 [(0, .ref g), (1, .int q)] := hl
  have hinX50 : ∀ w ∈ wsX50, w ∈ wsX5_restore := fun w h => List.mem_cons_of_mem _ (List.mem_append_left _ (List.mem_append_right _ h))
  have hinX40 : ∀ w ∈ wsX40, w ∈ wsX5_restore := fun w h => List.mem_cons_of_mem _ (List.mem_append_right _ h)
  have hC := hok.2.2.2.1
  have hz := hok.1
  have hn3 := hok.2.1
  have hg := hok.2.2.1
  have hnm := nmS_le hok
  have hct := hok.2.2.2.2.2.2.1
  refine lv_iload_n hx hb dX5_restore_0 rfl (lv_at hl 1 rfl) ?_
  refine lv_if_lt (tgt := 13) hx hb dX5_restore_1 (by decide) (fun c1 => ?_) (fun c1 => ?_)
  · refine lv_iconst (v := -1) hx hb dX5_restore_13 (by decide) ?_
    exact uRetI hx hb hr hlocks hK hP hD hS (Or.inl ⟨fun z => z.1 c1, rfl, rfl⟩) (Nat.le_of_ble_eq_true rfl) (Nat.le_of_ble_eq_true rfl) dX5_restore_14
  · refine lv_iload_n hx hb dX5_restore_4 rfl (lv_at hl 1 rfl) ?_
    refine lv_aload_n hx hb dX5_restore_5 rfl (lv_at hl 0 rfl) ?_
    refine va_get (D := D) (ci := 3) (v := .ref sl) (C := RX5) (T := TX5) (N := 8) hx hb hts hinX50 hown hK.1 hP 0 rfl rfl 4 (by decide) (hts (.fieldLink RX5 27 "RenamingGrid" "slots" "[LRenamingGrid$State;") (List.mem_of_getElem? (i := 1) rfl)) (fun _ h9 => h9) rfl dX5_restore_6 ?_
    refine va_alen (D := D) (v := nI 2) hx hb hK.1 hP 2 4 rfl rfl rfl dX5_restore_9 ?_
    refine lv_icmp_lt (tgt := 15) hx hb dX5_restore_10 (by decide) (fun c10 => ?_) (fun c10 => ?_)
    · obtain ⟨j, hj, rfl⟩ := inR_j (n := 2) (by decide) ⟨c1, nlt2 c10⟩
      rcases (show j = 0 ∨ j = 1 by omega) with rfl | rfl
      · refine lv_aload_n hx hb dX5_restore_15 rfl (lv_at hl 0 rfl) ?_
        refine va_get (D := D) (ci := 3) (v := .ref sl) (C := RX5) (T := TX5) (N := 8) hx hb hts hinX50 hown hK.1 hP 0 rfl rfl 4 (by decide) (hts (.fieldLink RX5 27 "RenamingGrid" "slots" "[LRenamingGrid$State;") (List.mem_of_getElem? (i := 1) rfl)) (fun _ h9 => h9) rfl dX5_restore_16 ?_
        refine lv_iload_n hx hb dX5_restore_19 rfl (lv_at hl 1 rfl) ?_
        refine n_qald (D := D) (ca := ca) (v := .null) hx hb hK.1 hP 2 (f := (qo [none, none])) rfl (by omega) (by decide) rfl dX5_restore_20 ?_
        refine lv_ifnonnullN hx hb dX5_restore_21 ?_
        refine lv_bipush (v := -2) hx hb dX5_restore_24 (by decide) ?_
        exact uRetI hx hb hr hlocks hK hP hD hS (Or.inr (Or.inl ⟨rfl, rfl, rfl⟩)) (Nat.le_of_ble_eq_true rfl) (Nat.le_of_ble_eq_true rfl) dX5_restore_26
      · refine lv_aload_n hx hb dX5_restore_15 rfl (lv_at hl 0 rfl) ?_
        refine va_get (D := D) (ci := 3) (v := .ref sl) (C := RX5) (T := TX5) (N := 8) hx hb hts hinX50 hown hK.1 hP 0 rfl rfl 4 (by decide) (hts (.fieldLink RX5 27 "RenamingGrid" "slots" "[LRenamingGrid$State;") (List.mem_of_getElem? (i := 1) rfl)) (fun _ h9 => h9) rfl dX5_restore_16 ?_
        refine lv_iload_n hx hb dX5_restore_19 rfl (lv_at hl 1 rfl) ?_
        refine n_qald (D := D) (ca := ca) (v := .null) hx hb hK.1 hP 2 (f := (qo [none, none])) rfl (by omega) (by decide) rfl dX5_restore_20 ?_
        refine lv_ifnonnullN hx hb dX5_restore_21 ?_
        refine lv_bipush (v := -2) hx hb dX5_restore_24 (by decide) ?_
        exact uRetI hx hb hr hlocks hK hP hD hS (Or.inr (Or.inr ⟨rfl, rfl, rfl⟩)) (Nat.le_of_ble_eq_true rfl) (Nat.le_of_ble_eq_true rfl) dX5_restore_26
    · refine lv_iconst (v := -1) hx hb dX5_restore_13 (by decide) ?_
      exact uRetI hx hb hr hlocks hK hP hD hS (Or.inl ⟨fun z => z.2 (lt2n c10), rfl, rfl⟩) (Nat.le_of_ble_eq_true rfl) (Nat.le_of_ble_eq_true rfl) dX5_restore_14

set_option maxHeartbeats 2000000 in
set_option maxRecDepth 20000 in
theorem x_restore (l : Launch) (D : va_G) (ca : Nat → ClassId) (g : Nat) (S : Nat → Nat) (n : Nat) (U : Nat → Nat → Nat) (b : Nat → Nat) (V : Nat → Nat → Nat) (L : Nat) (T : Nat → Nat) (e w : Nat) (hσ : SG S n U b V L T e) (q : Int32) (W : va_W) (hI : XI ca g S n U b V L T e w W) : UP l D ca yX5_restore wsX5_restore 3 65 0 0 W [.ref g, .int q] (fun v W1 => (¬ inR 2 q ∧ v = some (.int (-1)) ∧ XI ca g S n U b V L T e w W1) ∨ (∃ j, j < 2 ∧ q = nI j ∧ ((b j = 0 ∧ v = some (.int (-2)) ∧ XI ca g S n U b V L T e w W1) ∨ (b j ≠ 0 ∧ v = some (.int (nI (runC (V j 3) (V j 1)))) ∧ XI ca g (V j) 0 U b V L T 0 w W1)))) := by
  have hI0 := hI
  obtain ⟨pr, sc, sa, sl, sch, tx, ip, ic, sv, Z, UU, c, P, K, vW, vT, o0, o1, wS, wE, rfl, hU, hS, hE⟩ := hI
  rcases hS with ⟨hb0, hb1, rfl, rfl, rfl⟩ | ⟨hb0, hb1, z1, rfl, rfl, rfl⟩ | ⟨hb0, hb1, z0, rfl, rfl, rfl⟩ | ⟨hb0, hb1, z0, z1, rfl, rfl, rfl⟩
  · refine UP.core (c_X5_restore_00w l D ca g pr sc sa sl sch n vW vT 0 0 S S S hσ.1 q hσ.1 hσ.1) ((xcore ca g pr sc sa sl sch tx ip ic sv S Z UU n L c T P K vW vT ((none)) ((none))) ++ []) [(sc, .inr (2, cS Z)), (sa, .inl (ca 4, 8, .inr (.inr (.inr (.inr (qo [some (sv 0), some (sv 1), some (sv 2), some (sv 3), some (sv 4), some (sv 5), some (sv 6), some (sv 7)])))))), (sv 0, .inr (2, cS (UU 0))), (sv 1, .inr (2, cS (UU 1))), (sv 2, .inr (2, cS (UU 2))), (sv 3, .inr (2, cS (UU 3))), (sv 4, .inr (2, cS (UU 4))), (sv 5, .inr (2, cS (UU 5))), (sv 6, .inr (2, cS (UU 6))), (sv 7, .inr (2, cS (UU 7))), (sch, .inr (1, [.ref tx, .int (nI L), .ref ip, .ref ic, .int (nI c)])), (tx, .inl (ca 2, 80, .inl (rwN T))), (ip, .inl (ca 0, 40, .inl (rwN P))), (ic, .inl (ca 0, 40, .inl (rwN K)))] [0, 1, 16] [2, 3, 4, 5, 6, 7, 8, 9, 10, 11, 12, 13, 14, 15] rfl rfl (by decide) (by decide) wE ?_
    rintro v W1 (⟨hq, rfl, rfl⟩ | ⟨hq, rfl, rfl⟩ | ⟨hq, rfl, rfl⟩)
    · exact ⟨((xcore ca g pr sc sa sl sch tx ip ic sv S Z UU n L c T P K vW vT ((none)) ((none))) ++ []), [14, 15, 0, 1, 2, 3, 4, 5, 6, 7, 8, 9, 10, 11, 12, 13, 16], by decide, rfl, Or.inl ⟨hq, rfl, ⟨pr, sc, sa, sl, sch, tx, ip, ic, sv, Z, UU, c, P, K, vW, vT, (none), (none), [], wE, rfl, hU, Or.inl ⟨hb0, hb1, rfl, rfl, rfl⟩, hE⟩⟩⟩
    · exact ⟨((xcore ca g pr sc sa sl sch tx ip ic sv S Z UU n L c T P K vW vT ((none)) ((none))) ++ []), [14, 15, 0, 1, 2, 3, 4, 5, 6, 7, 8, 9, 10, 11, 12, 13, 16], by decide, rfl, Or.inr ⟨0, by decide, hq, Or.inl ⟨hb0, rfl, ⟨pr, sc, sa, sl, sch, tx, ip, ic, sv, Z, UU, c, P, K, vW, vT, (none), (none), [], wE, rfl, hU, Or.inl ⟨hb0, hb1, rfl, rfl, rfl⟩, hE⟩⟩⟩⟩
    · exact ⟨((xcore ca g pr sc sa sl sch tx ip ic sv S Z UU n L c T P K vW vT ((none)) ((none))) ++ []), [14, 15, 0, 1, 2, 3, 4, 5, 6, 7, 8, 9, 10, 11, 12, 13, 16], by decide, rfl, Or.inr ⟨1, by decide, hq, Or.inl ⟨hb1, rfl, ⟨pr, sc, sa, sl, sch, tx, ip, ic, sv, Z, UU, c, P, K, vW, vT, (none), (none), [], wE, rfl, hU, Or.inl ⟨hb0, hb1, rfl, rfl, rfl⟩, hE⟩⟩⟩⟩
  · refine UP.core (c_X5_restore_01 l D ca g pr sc sa sl sch n vW vT 0 z1 S (V 1) S hσ.1 q hσ.1 ((hσ.2.2.2.1 1 (by decide)).2 (by rw [hb1]; decide))) ((xcore ca g pr sc sa sl sch tx ip ic sv S Z UU n L c T P K vW vT ((none)) ((some z1))) ++ [(z1, .inr (2, cS (V 1)))]) [(sc, .inr (2, cS Z)), (sa, .inl (ca 4, 8, .inr (.inr (.inr (.inr (qo [some (sv 0), some (sv 1), some (sv 2), some (sv 3), some (sv 4), some (sv 5), some (sv 6), some (sv 7)])))))), (sv 0, .inr (2, cS (UU 0))), (sv 1, .inr (2, cS (UU 1))), (sv 2, .inr (2, cS (UU 2))), (sv 3, .inr (2, cS (UU 3))), (sv 4, .inr (2, cS (UU 4))), (sv 5, .inr (2, cS (UU 5))), (sv 6, .inr (2, cS (UU 6))), (sv 7, .inr (2, cS (UU 7))), (sch, .inr (1, [.ref tx, .int (nI L), .ref ip, .ref ic, .int (nI c)])), (tx, .inl (ca 2, 80, .inl (rwN T))), (ip, .inl (ca 0, 40, .inl (rwN P))), (ic, .inl (ca 0, 40, .inl (rwN K)))] [0, 1, 16, 17] [2, 3, 4, 5, 6, 7, 8, 9, 10, 11, 12, 13, 14, 15] rfl rfl (by decide) (by decide) wE ?_
    rintro v W1 (⟨hq, rfl, rfl⟩ | ⟨hq, rfl, rfl⟩ | ⟨hq, rfl, rfl⟩)
    · exact ⟨((xcore ca g pr sc sa sl sch tx ip ic sv S Z UU n L c T P K vW vT ((none)) ((some z1))) ++ [(z1, .inr (2, cS (V 1)))]), [14, 15, 0, 1, 2, 3, 4, 5, 6, 7, 8, 9, 10, 11, 12, 13, 16, 17], by decide, rfl, Or.inl ⟨hq, rfl, ⟨pr, sc, sa, sl, sch, tx, ip, ic, sv, Z, UU, c, P, K, vW, vT, (none), (some z1), [(z1, .inr (2, cS (V 1)))], wE, rfl, hU, Or.inr (Or.inl ⟨hb0, hb1, z1, rfl, rfl, rfl⟩), hE⟩⟩⟩
    · exact ⟨((xcore ca g pr sc sa sl sch tx ip ic sv S Z UU n L c T P K vW vT ((none)) ((some z1))) ++ [(z1, .inr (2, cS (V 1)))]), [14, 15, 0, 1, 2, 3, 4, 5, 6, 7, 8, 9, 10, 11, 12, 13, 16, 17], by decide, rfl, Or.inr ⟨0, by decide, hq, Or.inl ⟨hb0, rfl, ⟨pr, sc, sa, sl, sch, tx, ip, ic, sv, Z, UU, c, P, K, vW, vT, (none), (some z1), [(z1, .inr (2, cS (V 1)))], wE, rfl, hU, Or.inr (Or.inl ⟨hb0, hb1, z1, rfl, rfl, rfl⟩), hE⟩⟩⟩⟩
    · exact ⟨(xcore ca g pr sc sa sl sch tx ip ic sv ((V 1)) Z UU 0 L c T P K vW .null ((none)) ((some z1))) ++ [(z1, .inr (2, cS (V 1)))], [14, 15, 0, 1, 2, 3, 4, 5, 6, 7, 8, 9, 10, 11, 12, 13, 16, 17], by decide, rfl, Or.inr ⟨1, by decide, hq, Or.inr ⟨by rw [hb1]; decide, rfl, ⟨pr, sc, sa, sl, sch, tx, ip, ic, sv, Z, UU, c, P, K, vW, .null, (none), (some z1), [(z1, .inr (2, cS (V 1)))], wE, rfl, fun i hi => absurd hi (Nat.not_lt_zero i), Or.inr (Or.inl ⟨hb0, hb1, z1, rfl, rfl, rfl⟩), EX_0 hE⟩⟩⟩⟩
  · refine UP.core (c_X5_restore_10 l D ca g pr sc sa sl sch n vW vT z0 0 (V 0) S S hσ.1 q ((hσ.2.2.2.1 0 (by decide)).2 (by rw [hb0]; decide)) hσ.1) ((xcore ca g pr sc sa sl sch tx ip ic sv S Z UU n L c T P K vW vT ((some z0)) ((none))) ++ [(z0, .inr (2, cS (V 0)))]) [(sc, .inr (2, cS Z)), (sa, .inl (ca 4, 8, .inr (.inr (.inr (.inr (qo [some (sv 0), some (sv 1), some (sv 2), some (sv 3), some (sv 4), some (sv 5), some (sv 6), some (sv 7)])))))), (sv 0, .inr (2, cS (UU 0))), (sv 1, .inr (2, cS (UU 1))), (sv 2, .inr (2, cS (UU 2))), (sv 3, .inr (2, cS (UU 3))), (sv 4, .inr (2, cS (UU 4))), (sv 5, .inr (2, cS (UU 5))), (sv 6, .inr (2, cS (UU 6))), (sv 7, .inr (2, cS (UU 7))), (sch, .inr (1, [.ref tx, .int (nI L), .ref ip, .ref ic, .int (nI c)])), (tx, .inl (ca 2, 80, .inl (rwN T))), (ip, .inl (ca 0, 40, .inl (rwN P))), (ic, .inl (ca 0, 40, .inl (rwN K)))] [0, 1, 16, 17] [2, 3, 4, 5, 6, 7, 8, 9, 10, 11, 12, 13, 14, 15] rfl rfl (by decide) (by decide) wE ?_
    rintro v W1 (⟨hq, rfl, rfl⟩ | ⟨hq, rfl, rfl⟩ | ⟨hq, rfl, rfl⟩)
    · exact ⟨((xcore ca g pr sc sa sl sch tx ip ic sv S Z UU n L c T P K vW vT ((some z0)) ((none))) ++ [(z0, .inr (2, cS (V 0)))]), [14, 15, 0, 1, 2, 3, 4, 5, 6, 7, 8, 9, 10, 11, 12, 13, 16, 17], by decide, rfl, Or.inl ⟨hq, rfl, ⟨pr, sc, sa, sl, sch, tx, ip, ic, sv, Z, UU, c, P, K, vW, vT, (some z0), (none), [(z0, .inr (2, cS (V 0)))], wE, rfl, hU, Or.inr (Or.inr (Or.inl ⟨hb0, hb1, z0, rfl, rfl, rfl⟩)), hE⟩⟩⟩
    · exact ⟨(xcore ca g pr sc sa sl sch tx ip ic sv ((V 0)) Z UU 0 L c T P K vW .null ((some z0)) ((none))) ++ [(z0, .inr (2, cS (V 0)))], [14, 15, 0, 1, 2, 3, 4, 5, 6, 7, 8, 9, 10, 11, 12, 13, 16, 17], by decide, rfl, Or.inr ⟨0, by decide, hq, Or.inr ⟨by rw [hb0]; decide, rfl, ⟨pr, sc, sa, sl, sch, tx, ip, ic, sv, Z, UU, c, P, K, vW, .null, (some z0), (none), [(z0, .inr (2, cS (V 0)))], wE, rfl, fun i hi => absurd hi (Nat.not_lt_zero i), Or.inr (Or.inr (Or.inl ⟨hb0, hb1, z0, rfl, rfl, rfl⟩)), EX_0 hE⟩⟩⟩⟩
    · exact ⟨((xcore ca g pr sc sa sl sch tx ip ic sv S Z UU n L c T P K vW vT ((some z0)) ((none))) ++ [(z0, .inr (2, cS (V 0)))]), [14, 15, 0, 1, 2, 3, 4, 5, 6, 7, 8, 9, 10, 11, 12, 13, 16, 17], by decide, rfl, Or.inr ⟨1, by decide, hq, Or.inl ⟨hb1, rfl, ⟨pr, sc, sa, sl, sch, tx, ip, ic, sv, Z, UU, c, P, K, vW, vT, (some z0), (none), [(z0, .inr (2, cS (V 0)))], wE, rfl, hU, Or.inr (Or.inr (Or.inl ⟨hb0, hb1, z0, rfl, rfl, rfl⟩)), hE⟩⟩⟩⟩
  · refine UP.core (c_X5_restore_11 l D ca g pr sc sa sl sch n vW vT z0 z1 (V 0) (V 1) S hσ.1 q ((hσ.2.2.2.1 0 (by decide)).2 (by rw [hb0]; decide)) ((hσ.2.2.2.1 1 (by decide)).2 (by rw [hb1]; decide))) ((xcore ca g pr sc sa sl sch tx ip ic sv S Z UU n L c T P K vW vT ((some z0)) ((some z1))) ++ [(z0, .inr (2, cS (V 0))), (z1, .inr (2, cS (V 1)))]) [(sc, .inr (2, cS Z)), (sa, .inl (ca 4, 8, .inr (.inr (.inr (.inr (qo [some (sv 0), some (sv 1), some (sv 2), some (sv 3), some (sv 4), some (sv 5), some (sv 6), some (sv 7)])))))), (sv 0, .inr (2, cS (UU 0))), (sv 1, .inr (2, cS (UU 1))), (sv 2, .inr (2, cS (UU 2))), (sv 3, .inr (2, cS (UU 3))), (sv 4, .inr (2, cS (UU 4))), (sv 5, .inr (2, cS (UU 5))), (sv 6, .inr (2, cS (UU 6))), (sv 7, .inr (2, cS (UU 7))), (sch, .inr (1, [.ref tx, .int (nI L), .ref ip, .ref ic, .int (nI c)])), (tx, .inl (ca 2, 80, .inl (rwN T))), (ip, .inl (ca 0, 40, .inl (rwN P))), (ic, .inl (ca 0, 40, .inl (rwN K)))] [0, 1, 16, 17, 18] [2, 3, 4, 5, 6, 7, 8, 9, 10, 11, 12, 13, 14, 15] rfl rfl (by decide) (by decide) wE ?_
    rintro v W1 (⟨hq, rfl, rfl⟩ | ⟨hq, rfl, rfl⟩ | ⟨hq, rfl, rfl⟩)
    · exact ⟨((xcore ca g pr sc sa sl sch tx ip ic sv S Z UU n L c T P K vW vT ((some z0)) ((some z1))) ++ [(z0, .inr (2, cS (V 0))), (z1, .inr (2, cS (V 1)))]), [14, 15, 0, 1, 2, 3, 4, 5, 6, 7, 8, 9, 10, 11, 12, 13, 16, 17, 18], by decide, rfl, Or.inl ⟨hq, rfl, ⟨pr, sc, sa, sl, sch, tx, ip, ic, sv, Z, UU, c, P, K, vW, vT, (some z0), (some z1), [(z0, .inr (2, cS (V 0))), (z1, .inr (2, cS (V 1)))], wE, rfl, hU, Or.inr (Or.inr (Or.inr ⟨hb0, hb1, z0, z1, rfl, rfl, rfl⟩)), hE⟩⟩⟩
    · exact ⟨(xcore ca g pr sc sa sl sch tx ip ic sv ((V 0)) Z UU 0 L c T P K vW .null ((some z0)) ((some z1))) ++ [(z0, .inr (2, cS (V 0))), (z1, .inr (2, cS (V 1)))], [14, 15, 0, 1, 2, 3, 4, 5, 6, 7, 8, 9, 10, 11, 12, 13, 16, 17, 18], by decide, rfl, Or.inr ⟨0, by decide, hq, Or.inr ⟨by rw [hb0]; decide, rfl, ⟨pr, sc, sa, sl, sch, tx, ip, ic, sv, Z, UU, c, P, K, vW, .null, (some z0), (some z1), [(z0, .inr (2, cS (V 0))), (z1, .inr (2, cS (V 1)))], wE, rfl, fun i hi => absurd hi (Nat.not_lt_zero i), Or.inr (Or.inr (Or.inr ⟨hb0, hb1, z0, z1, rfl, rfl, rfl⟩)), EX_0 hE⟩⟩⟩⟩
    · exact ⟨(xcore ca g pr sc sa sl sch tx ip ic sv ((V 1)) Z UU 0 L c T P K vW .null ((some z0)) ((some z1))) ++ [(z0, .inr (2, cS (V 0))), (z1, .inr (2, cS (V 1)))], [14, 15, 0, 1, 2, 3, 4, 5, 6, 7, 8, 9, 10, 11, 12, 13, 16, 17, 18], by decide, rfl, Or.inr ⟨1, by decide, hq, Or.inr ⟨by rw [hb1]; decide, rfl, ⟨pr, sc, sa, sl, sch, tx, ip, ic, sv, Z, UU, c, P, K, vW, .null, (some z0), (some z1), [(z0, .inr (2, cS (V 0))), (z1, .inr (2, cS (V 1)))], wE, rfl, fun i hi => absurd hi (Nat.not_lt_zero i), Or.inr (Or.inr (Or.inr ⟨hb0, hb1, z0, z1, rfl, rfl, rfl⟩)), EX_0 hE⟩⟩⟩⟩

