/-! ===== the exploration: its order, depths; the model's keys and hash ===== -/
def potA (C : Nat) : Nat := pot C 0 + pot C 1 + pot C 2
theorem potA_48 (C : Nat) : potA C ≤ 48 := by
  have h : ∀ p, pot C p ≤ 16 := fun p => by unfold pot; split <;> omega
  have h0 := h 0
  have h1 := h 1
  have h2 := h 2
  unfold potA
  omega
theorem potA_step {C p k g : Nat} (hp : p < 3) (hk : 2 ≤ k ∧ k ≤ 4) (hr : stC C p = 0) (h : VC k C) : potA (stepC C p k g) + 1 ≤ potA C := by
  have h1 := (step_p (g := g) hp hk.1 hk.2 hr (h.2 p hp)).2
  have ho : ∀ q, q < 3 → q ≠ p → pot (stepC C p k g) q = pot C q := fun q hq hn => pot_of (fl3_step_other hp hq hn hk.2)
  unfold potA
  rcases (show p = 0 ∨ p = 1 ∨ p = 2 by omega) with rfl | rfl | rfl
  · rw [ho 1 (by decide) (by decide), ho 2 (by decide) (by decide)]; omega
  · rw [ho 0 (by decide) (by decide), ho 2 (by decide) (by decide)]; omega
  · rw [ho 0 (by decide) (by decide), ho 1 (by decide) (by decide)]; omega
theorem bP_app {B : BL} {e : Nat × Nat × Nat} {i : Nat} (h : i < B.length) : bP (B ++ [e]) i = bP B i := by unfold bP; rw [app_at h]
theorem bM_app {B : BL} {e : Nat × Nat × Nat} {i : Nat} (h : i < B.length) : bM (B ++ [e]) i = bM B i := by unfold bM; rw [app_at h]
theorem bC_last {B : BL} {x p m : Nat} : bC (B ++ [(x, p, m)]) B.length = x := by unfold bC; rw [app_last]
theorem bP_last {B : BL} {x p m : Nat} : bP (B ++ [(x, p, m)]) B.length = p := by unfold bP; rw [app_last]
theorem bM_last {B : BL} {x p m : Nat} : bM (B ++ [(x, p, m)]) B.length = m := by unfold bM; rw [app_last]
theorem len_app (B : BL) (e : Nat × Nat × Nat) : (B ++ [e]).length = B.length + 1 := by simp
theorem WFB_app {B : BL} {x p m : Nat} (h : WFB B) (hp : 0 < B.length → p < B.length) : WFB (B ++ [(x, p, m)]) := by
  intro i h0 hl
  rw [len_app] at hl
  by_cases c : i = B.length
  · subst c; rw [bP_last]; exact hp h0
  · rw [bP_app (by omega)]; exact h i h0 (by omega)
theorem depF_app {B : BL} {e : Nat × Nat × Nat} (h : WFB B) : ∀ (f i : Nat), i < B.length → depF f (B ++ [e]) i = depF f B i
  | 0, _, _ => rfl
  | f + 1, i, hl => by
    unfold depF
    by_cases c : i = 0
    · rw [if_pos c, if_pos c]
    · rw [if_neg c, if_neg c, bP_app hl, depF_app h f (bP B i) (by have := h i (by omega) hl; omega)]
theorem dep_app {B : BL} {e : Nat × Nat × Nat} (h : WFB B) {i : Nat} (hl : i < B.length) : dep (B ++ [e]) i = dep B i := depF_app h i i hl
theorem dep_last {B : BL} {x p m : Nat} (h : WFB B) (h0 : 0 < B.length) (hp : p < B.length) : dep (B ++ [(x, p, m)]) B.length = dep B p + 1 := by
  rw [dep_s (WFB_app h (fun _ => hp)) h0 (by rw [len_app]; omega), bP_last, dep_app h hp]
/-- an exploration under way: the parents go up to c -/
def OB (k c : Nat) (B : BL) : Prop := WFB B ∧ (∀ i j, 0 < i → i ≤ j → j < B.length → bP B i ≤ bP B j) ∧ (∀ i, 0 < i → i < B.length → bP B i ≤ c) ∧ VB k B ∧ 0 < B.length ∧ (∀ i, i < B.length → dep B i + potA (bC B i) ≤ potA (bC B 0)) ∧ B.length ≤ 4001
theorem OB_next {k c : Nat} {B : BL} (h : OB k c B) : OB k (c + 1) B := ⟨h.1, h.2.1, fun i a b => Nat.le_succ_of_le (h.2.2.1 i a b), h.2.2.2⟩
theorem OB_push {k c p g : Nat} {B : BL} (h : OB k c B) (hc : c < B.length) (hp : p < 3) (hk : 2 ≤ k ∧ k ≤ 4) (hr : stC (bC B c) p = 0) : OB k c (pushB B (stepC (bC B c) p k g) c p) := by
  rcases push_or B (stepC (bC B c) p k g) c p with e | ⟨e, hl, -⟩ <;> rw [e]
  · exact h
  obtain ⟨a1, a2, a3, a4, a5, a6, a7⟩ := h
  have hC := a4 c hc
  refine ⟨WFB_app a1 (fun _ => hc), fun i j h0 hij hj => ?_, fun i h0 hi => ?_, ?_, by rw [len_app]; omega, fun i hi => ?_, by rw [len_app]; omega⟩
  · rw [len_app] at hj
    by_cases cj : j = B.length
    · subst cj
      rw [bP_last]
      by_cases ci : i = B.length
      · subst ci; rw [bP_last]; exact Nat.le_refl _
      · rw [bP_app (by omega)]; exact a3 i h0 (by omega)
    · rw [bP_app (by omega), bP_app (by omega)]; exact a2 i j h0 hij (by omega)
  · rw [len_app] at hi
    by_cases ci : i = B.length
    · subst ci; rw [bP_last]; exact Nat.le_refl _
    · rw [bP_app (by omega)]; exact a3 i h0 (by omega)
  · have := VB_push (p := c) (m := p) a4 (VC_step (g := g) hC hp hk hr)
    rw [e] at this
    exact this
  · rw [len_app] at hi
    rw [bC_app (i := 0) a5]
    by_cases ci : i = B.length
    · subst ci
      rw [dep_last a1 a5 hc, bC_last]
      have := potA_step (g := g) hp hk hr hC
      have := a6 c hc
      omega
    · rw [dep_app a1 (by omega), bC_app (by omega)]
      exact a6 i (by omega)
theorem OB_ex {k g c : Nat} (hk : 2 ≤ k ∧ k ≤ 4) : ∀ {d p : Nat} {B : BL}, d + p ≤ 3 → c < B.length → OB k c B → OB k c (exB k g c d p B)
  | 0, _, _, _, _, h => h
  | d + 1, p, B, hd, hc, h => by
    unfold exB
    split
    · rename_i hr
      exact OB_ex hk (by omega) (Nat.lt_of_lt_of_le hc (push_len _ _ _ _).1) (OB_push h hc (by omega) hk hr)
    · exact OB_ex hk (by omega) hc h
theorem OB_bf {k g n : Nat} (hk : 2 ≤ k ∧ k ≤ 4) (hn : n ≤ 3) : ∀ {f c : Nat} {B : BL}, OB k c B → ∃ c2, OB k c2 (bfL k g n f c B)
  | 0, c, _, h => ⟨c, h⟩
  | f + 1, c, B, h => by
    unfold bfL
    split
    · rename_i q
      exact OB_bf hk hn (OB_next (OB_ex hk (by omega) q.1 h))
    · exact ⟨c, h⟩
theorem OB_1 {k x : Nat} (h : VC k x) : OB k 0 [(x, 0, 9)] := by
  refine ⟨fun i h0 hl => absurd hl (by show ¬ i < 1; omega), fun i j h0 hij hj => absurd hj (by show ¬ j < 1; omega), fun i h0 hl => absurd hl (by show ¬ i < 1; omega), fun j hj => ?_, by show 0 < 1; decide, fun i hi => ?_, by show 1 ≤ 4001; decide⟩
  · have e : j = 0 := by have : j < 1 := hj; omega
    subst e
    exact h
  · have e : i = 0 := by have : i < 1 := hi; omega
    subst e
    rw [dep_0]
    omega
theorem OB_BF {S : Nat → Nat} (h : SOK S) : ∃ c, OB (S 0) c (BF S) := OB_bf h.1 h.2.1.2 (OB_1 (VC_S h))
theorem dep_mono {k c : Nat} {B : BL} (h : OB k c B) : ∀ (j i : Nat), i ≤ j → j < B.length → dep B i ≤ dep B j
  | j, i, hij, hj => by
    by_cases c0 : i = 0
    · subst c0; rw [dep_0]; omega
    · have hp := h.1 j (by omega) hj
      rw [dep_s h.1 (by omega) (by omega : i < B.length), dep_s h.1 (by omega) hj]
      exact Nat.succ_le_succ (dep_mono h (bP B j) (bP B i) (h.2.1 i j (by omega) hij hj) (by omega))
  termination_by j => j
theorem dep_48 {k c : Nat} {B : BL} (h : OB k c B) {i : Nat} (hi : i < B.length) : dep B i ≤ 48 := by
  have h1 := h.2.2.2.2.2.1 i hi
  have h2 := potA_48 (bC B 0)
  omega
/-! ===== keys ===== -/
theorem low24 (C : Nat) : C = regs C * 16777216 + (stC C 0 + 4 * phC C 0 + 16 * spC C 0) + 256 * (stC C 1 + 4 * phC C 1 + 16 * spC C 1) + 65536 * (stC C 2 + 4 * phC C 2 + 16 * spC C 2) := by
  have e : ∀ x : Nat, x % 256 = x % 4 + 4 * (x / 4 % 4) + 16 * (x / 16 % 16) := fun x => by omega
  have h0 : stC C 0 + 4 * phC C 0 + 16 * spC C 0 = C % 256 := by
    rw [e C]
    show C / 2 ^ 0 % 2 ^ 2 + 4 * (C / 2 ^ 2 % 2 ^ 2) + 16 * (C / 2 ^ 4 % 2 ^ 4) = _
    omega
  have h1 : stC C 1 + 4 * phC C 1 + 16 * spC C 1 = C / 256 % 256 := by
    rw [e (C / 256), Nat.div_div_eq_div_mul, Nat.div_div_eq_div_mul]
    show C / 2 ^ 8 % 2 ^ 2 + 4 * (C / 2 ^ 10 % 2 ^ 2) + 16 * (C / 2 ^ 12 % 2 ^ 4) = _
    omega
  have h2 : stC C 2 + 4 * phC C 2 + 16 * spC C 2 = C / 65536 % 256 := by
    rw [e (C / 65536), Nat.div_div_eq_div_mul, Nat.div_div_eq_div_mul]
    show C / 2 ^ 16 % 2 ^ 2 + 4 * (C / 2 ^ 18 % 2 ^ 2) + 16 * (C / 2 ^ 20 % 2 ^ 4) = _
    omega
  rw [h0, h1, h2]
  show C = C / 2 ^ 24 * 16777216 + _ + _ + _
  omega
theorem qb_inj {k C C2 p : Nat} (h1 : pOK k C p) (h2 : pOK k C2 p) (h : qb C p = qb C2 p) : fl3 C p = fl3 C2 p := by
  have a1 := stC_lt C p
  have a2 := phC_lt C p
  have a3 := spC_lt C p
  have b1 := stC_lt C2 p
  have b2 := phC_lt C2 p
  have b3 := spC_lt C2 p
  have h : stC C p + 4 * (if stC C p = 2 then 15 else spC C p) + 64 * phC C p = stC C2 p + 4 * (if stC C2 p = 2 then 15 else spC C2 p) + 64 * phC C2 p := h
  have hst : stC C p = stC C2 p := by split at h <;> split at h <;> omega
  have hph : phC C p = phC C2 p := by split at h <;> split at h <;> omega
  have hsp : spC C p = spC C2 p := by
    by_cases c : stC C p = 2
    · rcases h1 with ⟨_, _, x1⟩ | ⟨x1, _⟩
      · rcases h2 with ⟨_, _, x2⟩ | ⟨x2, _⟩
        · rw [x1, x2]
        · exact absurd (hst ▸ c) x2
      · exact absurd c x1
    · rw [if_neg c, if_neg (fun z => c (hst.trans z))] at h
      omega
  unfold fl3
  rw [hst, hph, hsp]
theorem pack_inj {k C C2 : Nat} (h1 : VC k C) (h2 : VC k C2) (hr : regs C = regs C2) (hq : qn C = qn C2) : C = C2 := by
  have e : ∀ p, p < 3 → stC C p = stC C2 p ∧ phC C p = phC C2 p ∧ spC C p = spC C2 p := fun p hp => by
    have h := qb_inj (h1.2 p hp) (h2.2 p hp) (by rw [← qn_byte hp, ← qn_byte hp, hq])
    exact fl3_eq h
  rw [low24 C, low24 C2, hr, (e 0 (by decide)).1, (e 0 (by decide)).2.1, (e 0 (by decide)).2.2, (e 1 (by decide)).1, (e 1 (by decide)).2.1, (e 1 (by decide)).2.2, (e 2 (by decide)).1, (e 2 (by decide)).2.1, (e 2 (by decide)).2.2]
def hmX (C : Nat) : Int32 := nI ((regs C * 31 + qn C) * 1540483477)
def hM (C : Nat) : Nat := (hmX C).toBitVec.toNat / 2 ^ 19
theorem hM_lt (C : Nat) : hM C < 8192 := by have := (hmX C).toBitVec.isLt; unfold hM; omega
theorem ush19 (x : Int32) : (x.toUInt32 >>> ((nI 19).toUInt32 &&& Int32.toUInt32 31)).toInt32 = nI (x.toBitVec.toNat / 2 ^ 19) := by
  apply nI_inj32
  apply BitVec.eq_of_toNat_eq
  show (x.toUInt32 >>> ((nI 19).toUInt32 &&& Int32.toUInt32 31)).toNat = (BitVec.ofNat 32 _).toNat
  have h1 : ((nI 19).toUInt32 &&& Int32.toUInt32 31).toNat = 19 := by decide
  have h2 : x.toUInt32.toNat = x.toBitVec.toNat := rfl
  have h3 := x.toBitVec.isLt
  rw [UInt32.toNat_shiftRight, h1, h2, Nat.mod_eq_of_lt (by decide : 19 < 32), Nat.shiftRight_eq_div_pow, BitVec.toNat_ofNat, Nat.mod_eq_of_lt (by omega)]
/-- the model's rows hold the exploration -/
def RM (B : BL) (fR fQ fD fP fB : Nat → Int32) : Prop := ∀ i, i < B.length → fR i = nI (regs (bC B i)) ∧ fQ i = nI (qn (bC B i)) ∧ fD i = nI (dep B i) ∧ (0 < i → fP i = nI (bP B i)) ∧ (0 < i → fB i = nI (bM B i))
theorem RM_app {B : BL} {fR fQ fD fP fB : Nat → Int32} {x par mv : Nat} {vd vp vb : Int32} (h : RM B fR fQ fD fP fB) (hW : WFB B) (hp : 0 < B.length → par < B.length) (hd : vd = nI (if 0 < B.length then dep B par + 1 else 0)) (hvp : 0 < B.length → vp = nI par) (hvb : 0 < B.length → vb = nI mv) :
    RM (B ++ [(x, par, mv)]) (upd fR B.length (nI (regs x))) (upd fQ B.length (nI (qn x))) (upd fD B.length vd) (upd fP B.length vp) (upd fB B.length vb) := by
  intro i hi
  rw [len_app] at hi
  unfold upd
  by_cases c : i = B.length
  · subst c
    rw [if_pos rfl, if_pos rfl, if_pos rfl, if_pos rfl, if_pos rfl, bC_last, bP_last, bM_last]
    refine ⟨rfl, rfl, ?_, hvp, hvb⟩
    rw [hd]
    by_cases q : 0 < B.length
    · rw [if_pos q, dep_last hW q (hp q)]
    · rw [if_neg q, show B.length = 0 by omega, dep_0]
  · rw [if_neg c, if_neg c, if_neg c, if_neg c, if_neg c, bC_app (by omega), bP_app (by omega), bM_app (by omega), dep_app hW (by omega)]
    exact h i (by omega)
theorem slot_0 {h : Nat} (hh : h < 8192) : slot h 0 = h := by unfold slot; omega
theorem slot_s (h d : Nat) : (slot h d + 1) % 2 ^ 13 = slot h (d + 1) := by unfold slot; omega
theorem ht_00 {h K : Nat → Nat} {t : Nat → Nat} (hz : ∀ s, s < 8192 → t s = 0) : HT h K 0 t := ⟨fun s hs => by rw [hz s hs]; exact Nat.le_refl 0, fun j hj => absurd hj (Nat.not_lt_zero j), fb_ct_zero.mpr (fun s hs => by simp [hz s hs])⟩
