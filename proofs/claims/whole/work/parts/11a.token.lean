/-! ===== the model's tokens, and the reading of the class ===== -/
def skT (T : Nat → Nat) (L : Nat) : Nat → Nat → Nat
  | 0, j => j
  | d + 1, j => if cc T L j = 33 then skT T L d (j + 1) else j
def dgE (T : Nat → Nat) (L : Nat) : Nat → Nat → Nat
  | 0, j => j
  | d + 1, j => if dd (cc T L j) ≠ 0 then dgE T L d (j + 1) else j
/-- the next token's place; the place behind a token -/
def skN (T : Nat → Nat) (L j : Nat) : Nat := skT T L (L - j) j
def nxT (T : Nat → Nat) (L j : Nat) : Nat := if cc T L j = 0 then j else if dd (cc T L j) ≠ 0 then dgE T L (L - j) j else j + 1
def tkK (T : Nat → Nat) (L j : Nat) : Nat := if cc T L j = 0 then 0 else if dd (cc T L j) ≠ 0 then 1 else 2
def vlV (T : Nat → Nat) (L j : Nat) : Int32 := if dd (cc T L j) ≠ 0 then n9 (num T L j) else zI (cc T L j)
theorem cc_L {T : Nat → Nat} {L j : Nat} (h : L ≤ j) : cc T L j = 0 := if_neg (by omega)
theorem cc_in {T : Nat → Nat} {L j : Nat} (h : cc T L j ≠ 0) : j < L := by
  by_cases c : j < L
  · exact c
  · exact absurd (cc_L (by omega)) h
theorem cc_p {T : Nat → Nat} {L j : Nat} (h : j < L) : cc T L j = T j + 1 := if_pos h
theorem dd_0 : dd 0 = 0 := by decide
theorem dd_33 : dd 33 = 0 := by decide
theorem dd_in {c : Nat} (h : dd c ≠ 0) : 49 ≤ c ∧ c ≤ 58 ∧ dd c = c - 48 := by
  unfold dd at h ⊢
  split
  · rename_i q; exact ⟨q.1, q.2, rfl⟩
  · rename_i q; rw [if_neg q] at h; exact absurd rfl h
theorem sk_s {T : Nat → Nat} {L : Nat} : ∀ {d j : Nat}, j + d = L → (∀ i, j ≤ i → i < skT T L d j → cc T L i = 33) ∧ cc T L (skT T L d j) ≠ 33 ∧ j ≤ skT T L d j ∧ skT T L d j ≤ L
  | 0, j, h => ⟨fun i a b => absurd b (Nat.not_lt.mpr a), (by show cc T L j ≠ 33; rw [cc_L (by omega)]; decide), Nat.le_refl _, (by show j ≤ L; omega)⟩
  | d + 1, j, h => by
    unfold skT
    by_cases c : cc T L j = 33
    · rw [if_pos c]
      obtain ⟨h1, h2, h3, h4⟩ := sk_s (T := T) (L := L) (d := d) (j := j + 1) (by omega)
      refine ⟨fun i a b => ?_, h2, by omega, h4⟩
      by_cases e : i = j
      · rw [e]; exact c
      · exact h1 i (by omega) b
    · rw [if_neg c]
      exact ⟨fun i a b => absurd b (Nat.not_lt.mpr a), c, Nat.le_refl _, by omega⟩
theorem dg_s {T : Nat → Nat} {L : Nat} : ∀ {d j : Nat}, j + d = L → (∀ i, j ≤ i → i < dgE T L d j → dd (cc T L i) ≠ 0) ∧ dd (cc T L (dgE T L d j)) = 0 ∧ j ≤ dgE T L d j ∧ dgE T L d j ≤ L
  | 0, j, h => ⟨fun i a b => absurd b (Nat.not_lt.mpr a), (by show dd (cc T L j) = 0; rw [cc_L (by omega)]; decide), Nat.le_refl _, (by show j ≤ L; omega)⟩
  | d + 1, j, h => by
    unfold dgE
    by_cases c : dd (cc T L j) ≠ 0
    · rw [if_pos c]
      obtain ⟨h1, h2, h3, h4⟩ := dg_s (T := T) (L := L) (d := d) (j := j + 1) (by omega)
      refine ⟨fun i a b => ?_, h2, by omega, h4⟩
      by_cases e : i = j
      · rw [e]; exact c
      · exact h1 i (by omega) b
    · rw [if_neg c]
      exact ⟨fun i a b => absurd b (Nat.not_lt.mpr a), Nat.eq_zero_of_not_pos (fun z => c (by omega)), Nat.le_refl _, by omega⟩
theorem sk_u {T : Nat → Nat} {L j k : Nat} (hj : j ≤ L) (h0 : j ≤ k) (h1 : ∀ i, j ≤ i → i < k → cc T L i = 33) (h2 : cc T L k ≠ 33) : k = skN T L j := by
  obtain ⟨a1, a2, a3, a4⟩ := sk_s (T := T) (L := L) (d := L - j) (j := j) (by omega)
  unfold skN
  rcases Nat.lt_trichotomy k (skT T L (L - j) j) with c | c | c
  · exact absurd (a1 k h0 c) h2
  · exact c
  · exact absurd (h1 _ a3 c) a2
theorem dg_u {T : Nat → Nat} {L j k : Nat} (hj : j ≤ L) (h0 : j ≤ k) (h1 : ∀ i, j ≤ i → i < k → dd (cc T L i) ≠ 0) (h2 : dd (cc T L k) = 0) : k = dgE T L (L - j) j := by
  obtain ⟨a1, a2, a3, a4⟩ := dg_s (T := T) (L := L) (d := L - j) (j := j) (by omega)
  rcases Nat.lt_trichotomy k (dgE T L (L - j) j) with c | c | c
  · exact absurd h2 (a1 k h0 c)
  · exact c
  · exact absurd a2 (h1 _ a3 c)
theorem skN_le {T : Nat → Nat} {L j : Nat} (h : j ≤ L) : j ≤ skN T L j ∧ skN T L j ≤ L ∧ cc T L (skN T L j) ≠ 33 := by
  obtain ⟨a1, a2, a3, a4⟩ := sk_s (T := T) (L := L) (d := L - j) (j := j) (by omega)
  exact ⟨a3, a4, a2⟩
theorem nxT_le {T : Nat → Nat} {L j : Nat} (h : j ≤ L) : j ≤ nxT T L j ∧ nxT T L j ≤ L := by
  unfold nxT
  split
  · exact ⟨Nat.le_refl _, h⟩
  · rename_i c
    have := cc_in c
    split
    · obtain ⟨a1, a2, a3, a4⟩ := dg_s (T := T) (L := L) (d := L - j) (j := j) (by omega)
      exact ⟨a3, a4⟩
    · exact ⟨by omega, by omega⟩
/-- no token begins inside a number -/
def BD (T : Nat → Nat) (L j : Nat) : Prop := ¬ (dd (cc T L j) ≠ 0 ∧ 0 < j ∧ dd (cc T L (j - 1)) ≠ 0)
def TB (T : Nat → Nat) (L j : Nat) : Prop := j ≤ L ∧ cc T L j ≠ 33 ∧ BD T L j
theorem BD_0 (T : Nat → Nat) (L : Nat) : BD T L 0 := fun z => absurd z.2.1 (Nat.lt_irrefl 0)
theorem TB_sk {T : Nat → Nat} {L j : Nat} (h : j ≤ L) (hb : BD T L j) : TB T L (skN T L j) := by
  obtain ⟨a1, a2, a3, a4⟩ := sk_s (T := T) (L := L) (d := L - j) (j := j) (by omega)
  refine ⟨a4, a2, ?_⟩
  by_cases e : skN T L j = j
  · rw [e]; exact hb
  · intro z
    have hlt : j < skN T L j := by have : j ≤ skN T L j := a3; omega
    exact absurd z.2.2 (by rw [a1 (skN T L j - 1) (by omega) (by show skN T L j - 1 < skN T L j; omega)]; decide)
theorem BD_nx {T : Nat → Nat} {L j : Nat} (hj : j < L) : BD T L (nxT T L j) := by
  have hc : cc T L j ≠ 0 := by rw [cc_p hj]; omega
  unfold nxT
  rw [if_neg hc]
  by_cases c : dd (cc T L j) ≠ 0
  · rw [if_pos c]
    obtain ⟨a1, a2, a3, a4⟩ := dg_s (T := T) (L := L) (d := L - j) (j := j) (by omega)
    exact fun z => z.1 a2
  · rw [if_neg c]
    exact fun z => c (by have := z.2.2; rw [Nat.add_sub_cancel] at this; exact this)
theorem rd_skip {T : Nat → Nat} {L n E : Nat} {X : PS} : ∀ {d j : Nat}, j + d ≤ L → (∀ i, j ≤ i → i < j + d → ¬ bt T L i) → rdF T L n (L - j) j E X = rdF T L n (L - (j + d)) (j + d) E X
  | 0, _, _, _ => rfl
  | d + 1, j, h, hb => by
    have e : L - j = (L - (j + 1)) + 1 := by omega
    rw [e]
    show (if bt T L j then _ else rdF T L n (L - (j + 1)) (j + 1) E X) = _
    rw [if_neg (hb j (Nat.le_refl _) (by omega)), rd_skip (d := d) (j := j + 1) (by omega) (fun i a b => hb i (by omega) (by omega)), show j + 1 + d = j + (d + 1) by omega]
theorem rd_sk {T : Nat → Nat} {L n E j : Nat} {X : PS} (h : j ≤ L) : rdF T L n (L - j) j E X = rdF T L n (L - skN T L j) (skN T L j) E X := by
  obtain ⟨a1, a2, a3, a4⟩ := sk_s (T := T) (L := L) (d := L - j) (j := j) (by omega)
  have e : skN T L j = j + (skN T L j - j) := by have : j ≤ skN T L j := a3; omega
  rw [e]
  refine rd_skip (by have : skN T L j ≤ L := a4; omega) (fun i p q => fun z => z.1 (a1 i p ?_))
  show i < skN T L j
  omega
theorem rd_end {T : Nat → Nat} {L n E : Nat} {X : PS} : rdF T L n (L - L) L E X = (if E = 0 ∧ 0 < X.1 then 0 else L + 1, X) := by rw [Nat.sub_self]; rfl
theorem rd_4 {T : Nat → Nat} {L n E j : Nat} {X : PS} (ht : TB T L j) (hj : j < L) (h : (aft T L n E j X).1 = 4) : rdF T L n (L - j) j E X = (j + 1, (aft T L n E j X).2) := by
  have e : L - j = (L - (j + 1)) + 1 := by omega
  rw [e]
  show (if bt T L j then (if (aft T L n E j X).1 = 4 then (j + 1, (aft T L n E j X).2) else _) else _) = _
  rw [if_pos (show bt T L j from ⟨ht.2.1, ht.2.2⟩), if_pos h]
theorem rd_go {T : Nat → Nat} {L n E j : Nat} {X : PS} (ht : TB T L j) (hj : j < L) (h : (aft T L n E j X).1 ≠ 4) : rdF T L n (L - j) j E X = rdF T L n (L - skN T L (nxT T L j)) (skN T L (nxT T L j)) (aft T L n E j X).1 (aft T L n E j X).2 := by
  have hl := nxT_le (T := T) (L := L) (j := j) (by omega)
  rw [← rd_sk hl.2]
  have hc : cc T L j ≠ 0 := by rw [cc_p hj]; omega
  have e : L - j = (L - (j + 1)) + 1 := by omega
  have h1 : j < nxT T L j := by
    unfold nxT
    rw [if_neg hc]
    by_cases c : dd (cc T L j) ≠ 0
    · rw [if_pos c]
      obtain ⟨a1, a2, a3, a4⟩ := dg_s (T := T) (L := L) (d := L - j) (j := j) (by omega)
      rcases Nat.lt_or_ge j (dgE T L (L - j) j) with q | q
      · exact q
      · have : dgE T L (L - j) j = j := by omega
        rw [this] at a2
        exact absurd a2 c
    · rw [if_neg c]; omega
  have h2 : rdF T L n (L - j) j E X = rdF T L n (L - (j + 1)) (j + 1) (aft T L n E j X).1 (aft T L n E j X).2 := by
    rw [e]
    show (if bt T L j then (if (aft T L n E j X).1 = 4 then _ else rdF T L n (L - (j + 1)) (j + 1) (aft T L n E j X).1 (aft T L n E j X).2) else _) = _
    rw [if_pos (show bt T L j from ⟨ht.2.1, ht.2.2⟩), if_neg h]
  rw [h2]
  have e2 : nxT T L j = j + 1 + (nxT T L j - (j + 1)) := by omega
  rw [e2]
  refine rd_skip (by omega) (fun i p q z => ?_)
  have hd : dd (cc T L j) ≠ 0 := by
    intro q0
    have : nxT T L j = j + 1 := by unfold nxT; rw [if_neg hc, if_neg (fun w => w q0)]
    omega
  have hn : nxT T L j = dgE T L (L - j) j := by unfold nxT; rw [if_neg hc, if_pos hd]
  obtain ⟨a1, a2, a3, a4⟩ := dg_s (T := T) (L := L) (d := L - j) (j := j) (by omega)
  exact z.2 ⟨a1 i (by omega) (by omega), by omega, a1 (i - 1) (by omega) (by omega)⟩
theorem TB_nx {T : Nat → Nat} {L j : Nat} (hj : j < L) : TB T L (skN T L (nxT T L j)) := TB_sk (nxT_le (by omega)).2 (BD_nx hj)
/-! ===== the values of tokens ===== -/
theorem dgR {c : Nat} (hc : c ≤ 256) : (¬ zI c < nI 48 ∧ ¬ nI 57 < zI c) ↔ dd c ≠ 0 := by
  unfold dd
  by_cases h0 : c = 0
  · subst h0; decide
  · rw [zI_p (by omega), nI_ltI (by omega) (by decide), nI_ltI (by decide) (by omega)]
    constructor
    · intro h
      rw [if_pos (by omega)]
      omega
    · intro h
      by_cases q : 49 ≤ c ∧ c ≤ 58
      · omega
      · rw [if_neg q] at h; exact absurd rfl h
theorem tk_0 {T : Nat → Nat} {L j : Nat} (hj : j ≤ L) : tkK T L j = 0 ↔ j = L := by
  unfold tkK
  by_cases c : cc T L j = 0
  · rw [if_pos c]
    refine ⟨fun _ => ?_, fun _ => rfl⟩
    rcases Nat.lt_or_ge j L with q | q
    · rw [cc_p q] at c; omega
    · omega
  · rw [if_neg c]
    have := cc_in c
    refine ⟨fun h => ?_, fun h => by omega⟩
    split at h <;> omega
theorem tk_lt (T : Nat → Nat) (L j : Nat) : tkK T L j < 3 := by
  unfold tkK
  repeat' split
  all_goals decide
theorem tk_1 {T : Nat → Nat} {L j : Nat} : tkK T L j = 1 ↔ dd (cc T L j) ≠ 0 := by
  unfold tkK
  by_cases c : cc T L j = 0
  · rw [if_pos c, c, dd_0]; decide
  · rw [if_neg c]
    by_cases q : dd (cc T L j) ≠ 0
    · rw [if_pos q]; exact ⟨fun _ => q, fun _ => rfl⟩
    · rw [if_neg q]; exact ⟨fun z => absurd z (by decide), fun z => absurd z q⟩
theorem num_0 {T : Nat → Nat} {L j : Nat} (h : dd (cc T L j) = 0) : num T L j = 0 := if_pos h
/-- a sign at a token -/
theorem sg_iff {T : Nat → Nat} {L j x : Nat} (hT : ∀ i, T i ≤ 255) (hx : x < 48 ∨ 57 < x) (hx2 : x ≤ 255) : (tkK T L j = 2 ∧ vlV T L j = nI x) ↔ cc T L j = x + 1 := by
  have hc := cc_le hT L j
  constructor
  · rintro ⟨h1, h2⟩
    have hd : ¬ dd (cc T L j) ≠ 0 := fun z => by rw [tk_1.mpr z] at h1; omega
    unfold vlV at h2
    rw [if_neg hd] at h2
    exact (zI_eq (by omega) (by omega)).mp h2
  · intro h
    have hd : ¬ dd (cc T L j) ≠ 0 := fun z => by have := dd_in z; omega
    refine ⟨?_, ?_⟩
    · unfold tkK
      rw [if_neg (by omega), if_neg hd]
    · unfold vlV
      rw [if_neg hd]
      exact (zI_eq (by omega) (by omega)).mpr h
theorem pr_iff {T : Nat → Nat} {L j n : Nat} (hn : n ≤ 3) (h : tkK T L j = 1) : inR n (vlV T L j) ↔ (num T L j ≠ 0 ∧ num T L j ≤ n) := by
  have hd := tk_1.mp h
  have hl := num_le T L j
  unfold vlV
  rw [if_pos hd]
  by_cases c : num T L j = 0
  · rw [c, n9_0]
    exact ⟨fun z => absurd (show (-9 : Int32) < 0 by decide) z.1, fun z => absurd rfl z.1⟩
  · rw [n9_p (by omega)]
    constructor
    · intro z
      have h5 : ¬ n ≤ num T L j - 1 := fun w => z.2 ((nI_leI (by omega) (by omega)).mpr w)
      omega
    · intro z
      exact inR_nI (by omega) (by omega)
theorem pr_v {T : Nat → Nat} {L j : Nat} (h : tkK T L j = 1) (h0 : num T L j ≠ 0) : vlV T L j = nI (num T L j - 1) := by
  unfold vlV
  rw [if_pos (tk_1.mp h), n9_p (by omega)]
theorem ct_iff {T : Nat → Nat} {L j : Nat} (h : tkK T L j = 1) : (¬ vlV T L j < nI 1 ∧ ¬ nI 30 < vlV T L j) ↔ (2 ≤ num T L j ∧ num T L j ≤ 31) := by
  have hd := tk_1.mp h
  have hl := num_le T L j
  unfold vlV
  rw [if_pos hd]
  by_cases c : num T L j = 0
  · rw [c, n9_0]
    exact ⟨fun z => absurd (show (-9 : Int32) < nI 1 by decide) z.1, fun z => absurd z.1 (by decide)⟩
  · rw [n9_p (by omega), nI_ltI (by omega) (by decide), nI_ltI (by decide) (by omega)]
    omega
/-! ===== items executed: the last one added ===== -/
theorem exS_snoc (X : PS) : ∀ (d i : Nat) (S : Nat → Nat), exS X (d + 1) i S = runS (X.2.2 (i + d)) (exS X d i S) (X.2.1 (i + d))
  | 0, _, _ => rfl
  | d + 1, i, S => by
    show exS X (d + 1) (i + 1) _ = _
    rw [exS_snoc X d (i + 1)]
    rw [show i + 1 + d = i + (d + 1) by omega]
    rfl
theorem exN_snoc (X : PS) : ∀ (d i : Nat) (S : Nat → Nat), exN X (d + 1) i S = exN X d i S + runN (X.2.2 (i + d)) (exS X d i S) (X.2.1 (i + d))
  | 0, i, S => by
    show runN (X.2.2 i) S (X.2.1 i) + 0 = 0 + runN (X.2.2 (i + 0)) S (X.2.1 (i + 0))
    rw [Nat.add_zero, Nat.zero_add]
    rfl
  | d + 1, i, S => by
    show runN (X.2.2 i) S (X.2.1 i) + exN X (d + 1) (i + 1) _ = (runN (X.2.2 i) S (X.2.1 i) + exN X d (i + 1) _) + _
    rw [exN_snoc X d (i + 1), show i + 1 + d = i + (d + 1) by omega, Nat.add_assoc]
    rfl
theorem exS_ext {X Y : PS} : ∀ {d i : Nat} {S : Nat → Nat}, (∀ k, i ≤ k → k < i + d → X.2.1 k = Y.2.1 k ∧ X.2.2 k = Y.2.2 k) → exS X d i S = exS Y d i S
  | 0, _, _, _ => rfl
  | d + 1, i, S, h => by
    show exS X d (i + 1) (runS (X.2.2 i) S (X.2.1 i)) = exS Y d (i + 1) (runS (Y.2.2 i) S (Y.2.1 i))
    rw [(h i (Nat.le_refl _) (by omega)).1, (h i (Nat.le_refl _) (by omega)).2]
    exact exS_ext (fun k a b => h k (by omega) (by omega))
theorem exN_ext {X Y : PS} : ∀ {d i : Nat} {S : Nat → Nat}, (∀ k, i ≤ k → k < i + d → X.2.1 k = Y.2.1 k ∧ X.2.2 k = Y.2.2 k) → exN X d i S = exN Y d i S
  | 0, _, _, _ => rfl
  | d + 1, i, S, h => by
    show runN (X.2.2 i) S (X.2.1 i) + exN X d (i + 1) (runS (X.2.2 i) S (X.2.1 i)) = runN (Y.2.2 i) S (Y.2.1 i) + exN Y d (i + 1) (runS (Y.2.2 i) S (Y.2.1 i))
    rw [(h i (Nat.le_refl _) (by omega)).1, (h i (Nat.le_refl _) (by omega)).2]
    rw [exN_ext (fun k a b => h k (by omega) (by omega))]
/-- an item added -/
def adI (X : PS) (p k : Nat) : PS := (X.1 + 1, va_up X.2.1 X.1 p, va_up X.2.2 X.1 k)
theorem adI_S (X : PS) (p k : Nat) (S : Nat → Nat) : exS (adI X p k) (X.1 + 1) 0 S = runS k (exS X X.1 0 S) p := by
  rw [exS_snoc, exS_ext (Y := X) (fun i _ h => ⟨va_up_ne _ _ (show i ≠ X.1 by omega), va_up_ne _ _ (show i ≠ X.1 by omega)⟩)]
  show runS (va_up X.2.2 X.1 k (0 + X.1)) _ (va_up X.2.1 X.1 p (0 + X.1)) = _
  rw [Nat.zero_add, va_up_self, va_up_self]
theorem adI_N (X : PS) (p k : Nat) (S : Nat → Nat) : exN (adI X p k) (X.1 + 1) 0 S = exN X X.1 0 S + runN k (exS X X.1 0 S) p := by
  rw [exN_snoc, exN_ext (Y := X) (fun i _ h => ⟨va_up_ne _ _ (show i ≠ X.1 by omega), va_up_ne _ _ (show i ≠ X.1 by omega)⟩), exS_ext (Y := X) (fun i _ h => ⟨va_up_ne _ _ (show i ≠ X.1 by omega), va_up_ne _ _ (show i ≠ X.1 by omega)⟩)]
  show _ + runN (va_up X.2.2 X.1 k (0 + X.1)) _ (va_up X.2.1 X.1 p (0 + X.1)) = _
  rw [Nat.zero_add, va_up_self, va_up_self]
theorem adI_k (X : PS) (p k k2 : Nat) : ((adI X p k).1, (adI X p k).2.1, va_up (adI X p k).2.2 ((adI X p k).1 - 1) k2) = adI X p k2 := by
  show (X.1 + 1, va_up X.2.1 X.1 p, va_up (va_up X.2.2 X.1 k) (X.1 + 1 - 1) k2) = _
  rw [Nat.add_sub_cancel]
  have : va_up (va_up X.2.2 X.1 k) X.1 k2 = va_up X.2.2 X.1 k2 := by
    funext i
    unfold va_up
    split <;> rfl
  rw [this]
  rfl
/-! ===== one token of the class's reading ===== -/
theorem af_0y {T : Nat → Nat} {L n j : Nat} {X : PS} (h : num T L j ≠ 0 ∧ num T L j ≤ n) : aft T L n 0 j X = (1, adI X (num T L j - 1) 1) := by
  unfold aft
  rw [if_pos rfl, if_pos h]
  rfl
theorem af_0n {T : Nat → Nat} {L n j : Nat} {X : PS} (h : ¬ (num T L j ≠ 0 ∧ num T L j ≤ n)) : (aft T L n 0 j X).1 = 4 := by
  unfold aft
  rw [if_pos rfl, if_neg h]
theorem af_1s {T : Nat → Nat} {L n j : Nat} {X : PS} (h : cc T L j = 43) : aft T L n 1 j X = (2, X) := by
  unfold aft
  rw [if_neg (by decide), if_pos rfl, if_pos h]
theorem af_1e {T : Nat → Nat} {L n j : Nat} {X : PS} (h : cc T L j = 60) : aft T L n 1 j X = (0, X) := by
  unfold aft
  rw [if_neg (by decide), if_pos rfl, if_neg (by omega), if_pos h]
theorem af_1n {T : Nat → Nat} {L n j : Nat} {X : PS} (h : cc T L j ≠ 43) (h2 : cc T L j ≠ 60) : (aft T L n 1 j X).1 = 4 := by
  unfold aft
  rw [if_neg (by decide), if_pos rfl, if_neg h, if_neg h2]
theorem af_2y {T : Nat → Nat} {L n j : Nat} {X : PS} (h : 2 ≤ num T L j ∧ num T L j ≤ 31) : aft T L n 2 j X = (3, X.1, X.2.1, va_up X.2.2 (X.1 - 1) (num T L j - 1)) := by
  unfold aft
  rw [if_neg (by decide), if_neg (by decide), if_pos rfl, if_pos h]
theorem af_2n {T : Nat → Nat} {L n j : Nat} {X : PS} (h : ¬ (2 ≤ num T L j ∧ num T L j ≤ 31)) : (aft T L n 2 j X).1 = 4 := by
  unfold aft
  rw [if_neg (by decide), if_neg (by decide), if_pos rfl, if_neg h]
theorem af_3e {T : Nat → Nat} {L n j : Nat} {X : PS} (h : cc T L j = 60) : aft T L n 3 j X = (0, X) := by
  unfold aft
  rw [if_neg (by decide), if_neg (by decide), if_neg (by decide), if_pos h]
theorem af_3n {T : Nat → Nat} {L n j : Nat} {X : PS} (h : cc T L j ≠ 60) : (aft T L n 3 j X).1 = 4 := by
  unfold aft
  rw [if_neg (by decide), if_neg (by decide), if_neg (by decide), if_neg h]
/-- the reading from a token on: refused, or the next token; at the end an error unless an item is complete -/
theorem RT_x {T : Nat → Nat} {L n E j : Nat} {X : PS} (ht : TB T L j) (hE : E ≠ 0) (h : (aft T L n E j X).1 = 4) (hc : j = L ∨ j < L) : (rdF T L n (L - j) j E X).1 = j + 1 := by
  rcases hc with e | e
  · subst e
    rw [rd_end, if_neg (fun z => hE z.1)]
  · rw [rd_4 ht e h]
