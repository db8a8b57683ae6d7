/-! ===== what is told of an exploration ===== -/
def nmZ (C p : Nat) : Nat := if stC C p = 1 then spC C p + 1 else 0
theorem nmZ_le (C p : Nat) : nmZ C p ≤ 16 := by unfold nmZ; have := spC_lt C p; split <;> omega
def n9 (x : Nat) : Int32 := if x = 0 then -9 else nI (x - 1)
theorem nmC_z (C p : Nat) : nmC C p = n9 (nmZ C p) := by unfold nmC nmZ n9; split <;> simp
theorem n9_p {x : Nat} (h : 0 < x) : n9 x = nI (x - 1) := by unfold n9; rw [if_neg (by omega)]
theorem n9_0 : n9 0 = -9 := rfl
theorem n9_toInt {x : Nat} (hx : x ≤ 2 ^ 20) : (n9 x).toInt = if x = 0 then -9 else (x : Int) - 1 := by
  by_cases h : x = 0
  · subst h; decide
  · rw [n9_p (by omega), nI_toInt (by omega), if_neg h]; omega
theorem n9_inj {x y : Nat} (hx : x ≤ 2 ^ 20) (hy : y ≤ 2 ^ 20) : n9 x = n9 y ↔ x = y := by
  constructor
  · intro h
    have a := congrArg Int32.toInt h
    rw [n9_toInt hx, n9_toInt hy] at a
    split at a <;> split at a <;> omega
  · intro h; rw [h]
theorem n9_m9 {x : Nat} (hx : x ≤ 2 ^ 20) : n9 x = -9 ↔ x = 0 := n9_inj (y := 0) hx (by omega)
theorem n9_nI {x y : Nat} (hx : x ≤ 2 ^ 20) (hy : y < 2 ^ 20) : n9 x = nI y ↔ x = y + 1 := by
  have h := n9_inj (y := y + 1) hx (by omega)
  rw [show n9 (y + 1) = nI y from n9_p (by omega)] at h
  exact h
theorem n9_max {x y : Nat} (hx : x ≤ 2 ^ 20) (hy : y ≤ 2 ^ 20) : (if n9 x < n9 y then n9 y else n9 x) = n9 (max x y) := by
  have h : n9 x < n9 y ↔ x < y := by
    rw [Int32.lt_iff_toInt_lt, n9_toInt hx, n9_toInt hy]
    split <;> split <;> omega
  by_cases c : x < y
  · rw [if_pos (h.mpr c), Nat.max_eq_right (by omega)]
  · rw [if_neg (fun q => c (h.mp q)), Nat.max_eq_left (by omega)]
abbrev finP (n C : Nat) : Prop := runC C n = 0
theorem runC_mono (C : Nat) {i j : Nat} (h : i ≤ j) : runC C i ≤ runC C j := fb_ct_mono _ h
def vqB (C p : Nat) : Nat → Bool
  | 0 => false
  | q + 1 => vqB C p q || decide (nmZ C p ≠ 0 ∧ nmZ C p = nmZ C q)
def vioB (C : Nat) : Nat → Bool
  | 0 => false
  | p + 1 => vioB C p || vqB C p p
theorem vqB_mono {C p : Nat} : ∀ {i j : Nat}, i ≤ j → vqB C p i = true → vqB C p j = true
  | i, 0, h, e => by rw [show i = 0 by omega] at e; exact e
  | i, j + 1, h, e => by
    by_cases c : i = j + 1
    · rw [← c]; exact e
    · unfold vqB; rw [vqB_mono (by omega) e]; rfl
theorem vioB_mono {C : Nat} : ∀ {i j : Nat}, i ≤ j → vioB C i = true → vioB C j = true
  | i, 0, h, e => by rw [show i = 0 by omega] at e; exact e
  | i, j + 1, h, e => by
    by_cases c : i = j + 1
    · rw [← c]; exact e
    · unfold vioB; rw [vioB_mono (by omega) e]; rfl
theorem vio_hit {C p q n : Nat} (hq : q < p) (hp : p < n) (h1 : nmZ C p ≠ 0) (h2 : nmZ C p = nmZ C q) : vioB C n = true := by
  have a : vqB C p (q + 1) = true := by
    unfold vqB
    rw [decide_eq_true (show nmZ C p ≠ 0 ∧ nmZ C p = nmZ C q from ⟨h1, h2⟩), Bool.or_true]
  have b := vqB_mono (j := p) (by omega) a
  have c : vioB C (p + 1) = true := by unfold vioB; rw [b, Bool.or_true]
  exact vioB_mono (by omega) c
theorem vqB_no {C p q : Nat} (h : vqB C p q = false) (h2 : ¬ (nmZ C p ≠ 0 ∧ nmZ C p = nmZ C q)) : vqB C p (q + 1) = false := by unfold vqB; rw [h, decide_eq_false h2]; rfl
theorem vioB_no {C p : Nat} (h : vioB C p = false) (h2 : vqB C p p = false) : vioB C (p + 1) = false := by unfold vioB; rw [h, h2]; rfl
def fiC (B : BL) (n : Nat) : Nat → Nat := fb_ct (fun i => decide (finP n (bC B i)))
def viC (B : BL) (n : Nat) : Nat → Nat := fb_ct (fun i => vioB (bC B i) n)
def fnC (B : BL) (n p t : Nat) : Nat → Nat := fb_ct (fun i => decide (finP n (bC B i)) && decide (nmZ (bC B i) p = t + 1))
theorem ct_t {f : Nat → Bool} {i : Nat} (h : f i = true) : fb_ct f (i + 1) = fb_ct f i + 1 := by rw [fb_ct_succ, if_pos h]
theorem ct_f {f : Nat → Bool} {i : Nat} (h : f i = false) : fb_ct f (i + 1) = fb_ct f i := by rw [fb_ct_succ, if_neg (by rw [h]; decide)]; rfl
def hiP (C : Nat) : Nat → Nat
  | 0 => 0
  | p + 1 => max (hiP C p) (nmZ C p)
def hiB (B : BL) (n : Nat) : Nat → Nat
  | 0 => 0
  | i + 1 => max (hiB B n i) (hiP (bC B i) n)
theorem hiP_le (C : Nat) : ∀ p, hiP C p ≤ 16
  | 0 => Nat.zero_le _
  | p + 1 => by unfold hiP; exact Nat.max_le.mpr ⟨hiP_le C p, nmZ_le C p⟩
theorem hiB_le (B : BL) (n : Nat) : ∀ i, hiB B n i ≤ 16
  | 0 => Nat.zero_le _
  | i + 1 => by unfold hiB; exact Nat.max_le.mpr ⟨hiB_le B n i, hiP_le _ n⟩
def ocP (C : Nat) : Nat → Nat
  | 0 => 0
  | p + 1 => ocP C p * 16 + nmZ C p
/-- names fit into four bits -/
theorem ocP_lt {C : Nat} (h : ∀ p, p < 3 → nmZ C p ≤ 10) : ∀ {n : Nat}, n ≤ 3 → ocP C n < 16 ^ n
  | 0, _ => (by decide : (0 : Nat) < 16 ^ 0)
  | n + 1, hn => by
    have a := ocP_lt h (n := n) (by omega)
    have b := h n (by omega)
    unfold ocP
    rw [Nat.pow_succ]
    omega
theorem nmZ_V {k C p : Nat} (h : VC k C) (hp : p < 3) : nmZ C p ≤ 10 := by
  have := pOK_sp (h.2 p hp)
  unfold nmZ
  split <;> omega
/-- some final configuration among the first i has the outcome o -/
def anyO (B : BL) (n i o : Nat) : Bool := decide (0 < fb_ct (fun j => decide (finP n (bC B j)) && decide (ocP (bC B j) n = o)) i)
def dsB (B : BL) (n : Nat) : Nat → Nat := fb_ct (fun i => decide (finP n (bC B i)) && !(anyO B n i (ocP (bC B i) n)))
theorem anyO_0 (B : BL) (n o : Nat) : anyO B n 0 o = false := by unfold anyO; exact decide_eq_false (Nat.lt_irrefl 0)
theorem anyO_same {B : BL} {n i o : Nat} (h : ¬ (finP n (bC B i) ∧ ocP (bC B i) n = o)) : anyO B n (i + 1) o = anyO B n i o := by
  unfold anyO
  rw [ct_f]
  by_cases c : finP n (bC B i)
  · rw [decide_eq_true c, Bool.true_and]; exact decide_eq_false (fun q => h ⟨c, q⟩)
  · rw [decide_eq_false c, Bool.false_and]
theorem anyO_hit {B : BL} {n i o : Nat} (h : finP n (bC B i)) (h2 : ocP (bC B i) n = o) : anyO B n (i + 1) o = true := by
  unfold anyO
  rw [ct_t (by rw [decide_eq_true h, decide_eq_true h2]; rfl)]
  exact decide_eq_true (by omega)
/-- the number of outcomes, as a set's size -/
theorem ds_eq {B : BL} {n N : Nat} : ∀ {i : Nat}, (∀ j, j < i → ocP (bC B j) n < N) → fb_ct (anyO B n i) N = dsB B n i
  | 0, _ => by
    unfold dsB
    show fb_ct _ N = 0
    exact fb_ct_zero.mpr (fun o _ => anyO_0 B n o)
  | i + 1, h => by
    have ih := ds_eq (B := B) (n := n) (N := N) (i := i) (fun j hj => h j (by omega))
    by_cases c : finP n (bC B i)
    · have hN := h i (by omega)
      have e : anyO B n (i + 1) = fun k => if k = ocP (bC B i) n then true else anyO B n i k := by
        funext k
        by_cases hk : k = ocP (bC B i) n
        · rw [if_pos hk, anyO_hit c hk.symm]
        · rw [if_neg hk, anyO_same (fun q => hk q.2.symm)]
      have u := fb_ct_upd (anyO B n i) true hN
      rw [e]
      by_cases a : anyO B n i (ocP (bC B i) n) = true
      · rw [a] at u
        have hd : dsB B n (i + 1) = dsB B n i := ct_f (by rw [decide_eq_true c, a]; rfl)
        rw [hd, ← ih]
        omega
      · have a' : anyO B n i (ocP (bC B i) n) = false := by cases q : anyO B n i (ocP (bC B i) n); rfl; exact absurd q a
        rw [a'] at u
        have hd : dsB B n (i + 1) = dsB B n i + 1 := ct_t (by rw [decide_eq_true c, a']; rfl)
        rw [hd, ← ih]
        rw [if_neg (by decide), if_pos rfl] at u
        omega
    · have e : anyO B n (i + 1) = anyO B n i := by funext k; exact anyO_same (fun q => c q.1)
      rw [e, ih]
      exact (ct_f (by rw [decide_eq_false c]; rfl)).symm
/-! ===== depths and ways ===== -/
def WFB (B : BL) : Prop := ∀ i, 0 < i → i < B.length → bP B i < i
def depF : Nat → BL → Nat → Nat
  | 0, _, _ => 0
  | f + 1, B, i => if i = 0 then 0 else depF f B (bP B i) + 1
def dep (B : BL) (i : Nat) : Nat := depF i B i
theorem depF_irr {B : BL} (h : WFB B) : ∀ (f i : Nat), i ≤ f → i < B.length → ∀ g, i ≤ g → depF f B i = depF g B i
  | 0, i, hf, _, g, _ => by
    have : i = 0 := by omega
    subst this
    cases g with
    | zero => rfl
    | succ g => unfold depF; rfl
  | f + 1, i, hf, hl, g, hg => by
    by_cases c : i = 0
    · subst c
      cases g with
      | zero => unfold depF; rfl
      | succ g => unfold depF; rfl
    · obtain ⟨g2, rfl⟩ : ∃ g2, g = g2 + 1 := ⟨g - 1, by omega⟩
      have hp := h i (by omega) hl
      unfold depF
      rw [if_neg c, if_neg c, depF_irr h f (bP B i) (by omega) (by omega) g2 (by omega)]
theorem dep_0 (B : BL) : dep B 0 = 0 := rfl
theorem dep_s {B : BL} (h : WFB B) {i : Nat} (h0 : 0 < i) (hl : i < B.length) : dep B i = dep B (bP B i) + 1 := by
  have hp := h i h0 hl
  obtain ⟨f, rfl⟩ : ∃ f, i = f + 1 := ⟨i - 1, by omega⟩
  unfold dep
  show (if _ then _ else _) = _
  rw [if_neg (by omega), depF_irr h f (bP B (f + 1)) (by omega) (by omega) (bP B (f + 1)) (Nat.le_refl _)]
theorem dep_le {B : BL} (h : WFB B) : ∀ (i : Nat), i < B.length → dep B i ≤ i
  | 0, _ => Nat.le_refl 0
  | i + 1, hl => by
    have hp := h (i + 1) (by omega) hl
    rw [dep_s h (by omega) hl]
    have := dep_le h (bP B (i + 1)) (by omega)
    omega
  termination_by i => i
/-- the configuration k steps back -/
def anc (B : BL) (v : Nat) : Nat → Nat
  | 0 => v
  | k + 1 => bP B (anc B v k)
theorem anc_dep {B : BL} (h : WFB B) {v : Nat} (hv : v < B.length) : ∀ k, k ≤ dep B v → anc B v k < B.length ∧ dep B (anc B v k) + k = dep B v
  | 0, _ => ⟨hv, rfl⟩
  | k + 1, hk => by
    obtain ⟨h1, h2⟩ := anc_dep h hv k (by omega)
    have h0 : 0 < anc B v k := by
      rcases Nat.eq_zero_or_pos (anc B v k) with e | e
      · rw [e, dep_0] at h2; omega
      · exact e
    have hp := h _ h0 h1
    have hd := dep_s h h0 h1
    exact ⟨by show bP B (anc B v k) < _; omega, by show dep B (bP B (anc B v k)) + _ = _; omega⟩
theorem neg_q {d j : Nat} (hd : d ≤ 4001) (hj : j < 2 ^ 31) (h : d ≤ j) : ¬ 0 ≤ nI d - nI 1 - nI j := by
  rw [Int32.le_iff_toInt_le, Int32.toInt_sub, Int32.toInt_sub, nI_toInt (by omega), nI_toInt (by decide), nI_toInt hj]
  have e1 : ((d : Int) - ((1 : Nat) : Int)).bmod (2 ^ 32) = (d : Int) - 1 := Int.bmod_eq_of_le (by omega) (by omega)
  rw [e1, Int.bmod_eq_of_le (by omega) (by omega)]
  show ¬ (0 : Int32).toInt ≤ _
  rw [show (0 : Int32).toInt = 0 from rfl]
  omega
