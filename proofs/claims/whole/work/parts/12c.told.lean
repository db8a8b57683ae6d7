/-! ===== what the model notes of an exploration ===== -/
def mxD (B : BL) : Nat → Nat
  | 0 => 0
  | i + 1 => max (mxD B i) (dep B i)
theorem mxD_eq {k c : Nat} {B : BL} (h : OB k c B) : ∀ {i : Nat}, i < B.length → mxD B (i + 1) = dep B i
  | 0, _ => by show max 0 (dep B 0) = dep B 0; rw [dep_0]; rfl
  | i + 1, hi => by
    show max (mxD B (i + 1)) (dep B (i + 1)) = _
    rw [mxD_eq h (i := i) (by omega)]
    exact Nat.max_eq_right (dep_mono h (i + 1) i (by omega) hi)
def oc11 (C : Nat) : Nat → Nat
  | 0 => 0
  | p + 1 => 11 * oc11 C p + nmZ C p
theorem oc11_lt {C : Nat} (h : ∀ p, p < 3 → nmZ C p ≤ 10) : ∀ {n : Nat}, n ≤ 3 → oc11 C n < 11 ^ n
  | 0, _ => (by decide : (0 : Nat) < 11 ^ 0)
  | n + 1, hn => by
    have a := oc11_lt h (n := n) (by omega)
    have b := h n (by omega)
    unfold oc11
    rw [Nat.pow_succ]
    omega
theorem oc11_1331 {C n : Nat} (h : ∀ p, p < 3 → nmZ C p ≤ 10) (hn : n ≤ 3) : oc11 C n < 1331 :=
  Nat.lt_of_lt_of_le (oc11_lt h hn) (Nat.le_trans (Nat.pow_le_pow_right (by decide) hn) (by decide))
/-- the two codes of an outcome tell the same apart -/
theorem oc_iff {C C2 : Nat} (h : ∀ p, p < 3 → nmZ C p ≤ 10) (h2 : ∀ p, p < 3 → nmZ C2 p ≤ 10) : ∀ {n : Nat}, n ≤ 3 → (oc11 C n = oc11 C2 n ↔ ocP C n = ocP C2 n)
  | 0, _ => ⟨fun _ => rfl, fun _ => rfl⟩
  | n + 1, hn => by
    have ih := oc_iff h h2 (n := n) (by omega)
    have a := h n (by omega)
    have b := h2 n (by omega)
    show 11 * oc11 C n + nmZ C n = 11 * oc11 C2 n + nmZ C2 n ↔ ocP C n * 16 + nmZ C n = ocP C2 n * 16 + nmZ C2 n
    constructor
    · intro q
      have q1 : oc11 C n = oc11 C2 n := by omega
      have q2 := ih.mp q1
      omega
    · intro q
      have q1 : ocP C n = ocP C2 n := by omega
      have q2 := ih.mpr q1
      omega
def anyM (B : BL) (n i o : Nat) : Bool := decide (0 < fb_ct (fun j => decide (finP n (bC B j)) && decide (oc11 (bC B j) n = o)) i)
theorem anyM_0 (B : BL) (n o : Nat) : anyM B n 0 o = false := by unfold anyM; exact decide_eq_false (Nat.lt_irrefl 0)
theorem anyM_same {B : BL} {n i o : Nat} (h : ¬ (finP n (bC B i) ∧ oc11 (bC B i) n = o)) : anyM B n (i + 1) o = anyM B n i o := by
  unfold anyM
  rw [ct_f]
  by_cases c : finP n (bC B i)
  · rw [decide_eq_true c, Bool.true_and]; exact decide_eq_false (fun q => h ⟨c, q⟩)
  · rw [decide_eq_false c, Bool.false_and]
theorem anyM_hit {B : BL} {n i o : Nat} (h : finP n (bC B i)) (h2 : oc11 (bC B i) n = o) : anyM B n (i + 1) o = true := by
  unfold anyM
  rw [ct_t (by rw [decide_eq_true h, decide_eq_true h2]; rfl)]
  exact decide_eq_true (by omega)
theorem any_MO {B : BL} {n : Nat} (hN : ∀ i, i < B.length → ∀ p, p < 3 → nmZ (bC B i) p ≤ 10) (hn : n ≤ 3) {v : Nat} (hv : v < B.length) : ∀ {i : Nat}, i ≤ B.length → anyM B n i (oc11 (bC B v) n) = anyO B n i (ocP (bC B v) n)
  | 0, _ => by rw [anyM_0, anyO_0]
  | i + 1, hi => by
    have ih := any_MO hN hn hv (i := i) (by omega)
    have e := oc_iff (hN i (by omega)) (hN v hv) hn
    by_cases c : finP n (bC B i) ∧ oc11 (bC B i) n = oc11 (bC B v) n
    · rw [anyM_hit c.1 c.2, anyO_hit c.1 (e.mp c.2)]
    · rw [anyM_same c, anyO_same (fun z => c ⟨z.1, e.mpr z.2⟩), ih]
/-- counts of finals by process and name, one configuration more -/
def fbS (C : Nat) (F : Nat → Nat) : Nat → (Nat → Nat)
  | 0 => F
  | p + 1 => if stC C p = 1 then va_up (fbS C F p) (10 * p + spC C p) (fbS C F p (10 * p + spC C p) + 1) else fbS C F p
theorem fbS_at {C : Nat} {F : Nat → Nat} (hs : ∀ p, p < 3 → nmZ C p ≤ 10) : ∀ {n : Nat}, n ≤ 3 → ∀ {p t : Nat}, p < 3 → t < 10 → fbS C F n (10 * p + t) = F (10 * p + t) + (if p < n ∧ nmZ C p = t + 1 then 1 else 0)
  | 0, _, p, t, _, _ => by rw [if_neg (fun z => absurd z.1 (Nat.not_lt_zero p))]; rfl
  | n + 1, hn, p, t, hp, ht => by
    have ih := fbS_at (F := F) hs (n := n) (by omega) (p := p) (t := t) hp ht
    unfold fbS
    by_cases c : stC C n = 1
    · rw [if_pos c]
      have hz : nmZ C n = spC C n + 1 := if_pos c
      have h10 := hs n (by omega)
      by_cases e : 10 * p + t = 10 * n + spC C n
      · have e1 : p = n := by omega
        have e2 : t = spC C n := by omega
        subst e1
        rw [← e2, va_up_self, ih, if_neg (fun z => absurd z.1 (Nat.lt_irrefl p)), if_pos ⟨Nat.lt_succ_self p, by omega⟩]
      · rw [va_up_ne _ _ e, ih]
        congr 1
        by_cases q : p < n ∧ nmZ C p = t + 1
        · rw [if_pos q, if_pos ⟨by omega, q.2⟩]
        · rw [if_neg q, if_neg (fun z => by
            by_cases w : p = n
            · subst w; exact e (by have := z.2; omega)
            · exact q ⟨by omega, z.2⟩)]
    · rw [if_neg c, ih]
      have hz : nmZ C n = 0 := if_neg c
      congr 1
      by_cases q : p < n ∧ nmZ C p = t + 1
      · rw [if_pos q, if_pos ⟨by omega, q.2⟩]
      · rw [if_neg q, if_neg (fun z => by
          by_cases w : p = n
          · subst w; have := z.2; omega
          · exact q ⟨by omega, z.2⟩)]
/-- what stands in the rows behind i configurations -/
def HFm (B : BL) (n i : Nat) (F : Nat → Nat) : Prop := ∀ p t, p < n → t < 10 → F (10 * p + t) = fnC B n p t i
def HOm (B : BL) (n i : Nat) (O : Nat → Nat) : Prop := ∀ o, o < 1331 → O o = bN (anyM B n i o)
def HPm (B : BL) (n i : Nat) (pl : Int32) (P : Nat → Int32) : Prop := viC B n i ≠ 0 → ∃ v, v < B.length ∧ vioB (bC B v) n = true ∧ (∀ j, j < v → vioB (bC B j) n = false) ∧ pl = nI (dep B v) ∧ ∀ k, k < dep B v → P k = nI (bM B (anc B v (dep B v - 1 - k)))
theorem fn_t {B : BL} {n p t i : Nat} (h : finP n (bC B i)) : fnC B n p t (i + 1) = fnC B n p t i + (if nmZ (bC B i) p = t + 1 then 1 else 0) := by
  unfold fnC
  by_cases c : nmZ (bC B i) p = t + 1
  · rw [if_pos c, ct_t (by rw [decide_eq_true h, decide_eq_true c]; rfl)]
  · rw [if_neg c, ct_f (by rw [decide_eq_false c, Bool.and_false])]; rfl
theorem fn_f {B : BL} {n p t i : Nat} (h : ¬ finP n (bC B i)) : fnC B n p t (i + 1) = fnC B n p t i := ct_f (by rw [decide_eq_false h, Bool.false_and])
theorem HF_t {B : BL} {n i : Nat} {F : Nat → Nat} (h : HFm B n i F) (hN : ∀ p, p < 3 → nmZ (bC B i) p ≤ 10) (hn : n ≤ 3) (hf : finP n (bC B i)) : HFm B n (i + 1) (fbS (bC B i) F n) := fun p t hp ht => by
  rw [fbS_at hN hn (by omega) ht, h p t hp ht, fn_t hf]
  congr 1
  by_cases c : nmZ (bC B i) p = t + 1
  · rw [if_pos c, if_pos ⟨hp, c⟩]
  · rw [if_neg c, if_neg (fun z => c z.2)]
theorem HF_f {B : BL} {n i : Nat} {F : Nat → Nat} (h : HFm B n i F) (hf : ¬ finP n (bC B i)) : HFm B n (i + 1) F := fun p t hp ht => by rw [h p t hp ht, fn_f hf]
theorem HO_t {B : BL} {n i : Nat} {O : Nat → Nat} (h : HOm B n i O) (hf : finP n (bC B i)) : HOm B n (i + 1) (va_up O (oc11 (bC B i) n) 1) := fun o ho => by
  by_cases c : o = oc11 (bC B i) n
  · rw [vu_e c, anyM_hit hf c.symm]; rfl
  · rw [vu_n c, anyM_same (fun z => c z.2.symm), h o ho]
theorem HO_f {B : BL} {n i : Nat} {O : Nat → Nat} (h : HOm B n i O) (hf : ¬ finP n (bC B i)) : HOm B n (i + 1) O := fun o ho => by rw [anyM_same (fun z => hf z.1), h o ho]
theorem ds_t {B : BL} {n i : Nat} {O : Nat → Nat} (h : HOm B n i O) (hN : ∀ i, i < B.length → ∀ p, p < 3 → nmZ (bC B i) p ≤ 10) (hn : n ≤ 3) (hi : i < B.length) (hf : finP n (bC B i)) : dsB B n (i + 1) = dsB B n i + (if O (oc11 (bC B i) n) = 0 then 1 else 0) := by
  rw [h _ (oc11_1331 (hN i hi) hn), any_MO hN hn hi (Nat.le_of_lt hi)]
  unfold dsB
  cases q : anyO B n i (ocP (bC B i) n) with
  | true => rw [ct_f (by rw [decide_eq_true hf, q]; rfl), if_neg (by decide)]; rfl
  | false => rw [ct_t (by rw [decide_eq_true hf, q]; rfl), if_pos (show bN false = 0 from rfl)]
theorem ds_f {B : BL} {n i : Nat} (hf : ¬ finP n (bC B i)) : dsB B n (i + 1) = dsB B n i := ct_f (by rw [decide_eq_false hf]; rfl)
theorem fi_t {B : BL} {n i : Nat} (hf : finP n (bC B i)) : fiC B n (i + 1) = fiC B n i + 1 := ct_t (decide_eq_true hf)
theorem fi_f {B : BL} {n i : Nat} (hf : ¬ finP n (bC B i)) : fiC B n (i + 1) = fiC B n i := ct_f (decide_eq_false hf)
theorem vi_t {B : BL} {n i : Nat} (hf : vioB (bC B i) n = true) : viC B n (i + 1) = viC B n i + 1 := ct_t hf
theorem vi_f {B : BL} {n i : Nat} (hf : ¬ vioB (bC B i) n = true) : viC B n (i + 1) = viC B n i := ct_f (by cases q : vioB (bC B i) n; rfl; exact absurd q hf)
theorem fi_le (B : BL) (n i : Nat) : fiC B n i ≤ i := fb_ct_le _ _
theorem vi_le (B : BL) (n i : Nat) : viC B n i ≤ i := fb_ct_le _ _
theorem ds_le (B : BL) (n i : Nat) : dsB B n i ≤ i := fb_ct_le _ _
theorem fn_le (B : BL) (n p t i : Nat) : fnC B n p t i ≤ i := fb_ct_le _ _
theorem vi_0 {B : BL} {n : Nat} : ∀ {i : Nat}, viC B n i = 0 → ∀ j, j < i → vioB (bC B j) n = false
  | 0, _, j, hj => absurd hj (Nat.not_lt_zero j)
  | i + 1, h, j, hj => by
    cases q : vioB (bC B i) n with
    | true => rw [vi_t q] at h; omega
    | false =>
      rw [vi_f (by rw [q]; decide)] at h
      by_cases c : j = i
      · subst c; exact q
      · exact vi_0 h j (by omega)
theorem HP_f {B : BL} {n i : Nat} {pl : Int32} {P : Nat → Int32} (h : HPm B n i pl P) (hf : ¬ vioB (bC B i) n = true) : HPm B n (i + 1) pl P := fun z => h (by rw [← vi_f hf]; exact z)
theorem HP_s {B : BL} {n i : Nat} {pl : Int32} {P : Nat → Int32} (h : HPm B n i pl P) (hv : viC B n i ≠ 0) : HPm B n (i + 1) pl P := fun _ => h hv
theorem HP_n {B : BL} {n i : Nat} {pl : Int32} {P : Nat → Int32} (h0 : viC B n i = 0) (hi : i < B.length) (hv : vioB (bC B i) n = true) (hl : pl = nI (dep B i)) (hP : ∀ k, k < dep B i → P k = nI (bM B (anc B i (dep B i - 1 - k)))) : HPm B n (i + 1) pl P := fun _ => ⟨i, hi, hv, vi_0 h0, hl, hP⟩
theorem hiB_s (B : BL) (n i : Nat) : hiB B n (i + 1) = max (hiB B n i) (hiP (bC B i) n) := rfl
theorem n9_le {x y : Nat} (hx : x ≤ 2 ^ 20) (hy : y ≤ 2 ^ 20) : n9 x ≤ n9 y ↔ x ≤ y := by
  rw [Int32.le_iff_toInt_le, n9_toInt hx, n9_toInt hy]
  split <;> split <;> omega
theorem dec_z (x : Nat) : nI x + (-1) = zI x := by
  by_cases h : x = 0
  · subst h; decide
  · rw [zI_p (by omega)]
    exact sb_m1 (by omega)
theorem vq_f {C p q : Nat} (h : ¬ (stC C p = 1 ∧ stC C q = 1 ∧ spC C p = spC C q)) : vqB C p (q + 1) = vqB C p q := by
  show (vqB C p q || decide (nmZ C p ≠ 0 ∧ nmZ C p = nmZ C q)) = vqB C p q
  rw [decide_eq_false, Bool.or_false]
  intro z
  unfold nmZ at z
  by_cases c : stC C p = 1
  · rw [if_pos c] at z
    by_cases c2 : stC C q = 1
    · rw [if_pos c2] at z; exact h ⟨c, c2, by omega⟩
    · rw [if_neg c2] at z; omega
  · rw [if_neg c] at z; exact z.1 rfl
theorem vq_t {C p q : Nat} (h : stC C p = 1 ∧ stC C q = 1 ∧ spC C p = spC C q) : vqB C p (q + 1) = true := by
  show (vqB C p q || decide (nmZ C p ≠ 0 ∧ nmZ C p = nmZ C q)) = true
  rw [decide_eq_true, Bool.or_true]
  unfold nmZ
  rw [if_pos h.1, if_pos h.2.1, h.2.2]
  exact ⟨by omega, rfl⟩
theorem vq_m {C p q : Nat} (h : vqB C p q = true) : vqB C p (q + 1) = true := vqB_mono (Nat.le_succ q) h
theorem vio_s (C p : Nat) : vioB C (p + 1) = (vioB C p || vqB C p p) := rfl
theorem bN_bt {b : Bool} (h : b = true) : bN b = 1 := by rw [h]; rfl
theorem bN_bf {b : Bool} (h : b = false) : bN b = 0 := by rw [h]; rfl
theorem bN_n0 {b : Bool} : bN b ≠ 0 ↔ b = true := by cases b <;> decide
theorem bN_e0 {b : Bool} : bN b = 0 ↔ b = false := by cases b <;> decide
theorem nmZ_1 {C p : Nat} (h : stC C p = 1) : nmZ C p = spC C p + 1 := if_pos h
theorem nmZ_0 {C p : Nat} (h : ¬ stC C p = 1) : nmZ C p = 0 := if_neg h
theorem hiP_s (C p : Nat) : hiP C (p + 1) = max (hiP C p) (nmZ C p) := rfl
