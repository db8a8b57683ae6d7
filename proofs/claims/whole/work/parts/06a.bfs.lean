/-! ===== rows of longs; cells by what they hold below their length ===== -/
def lwN (T : Nat → Nat) : Nat → Int64 := fun i => lN (T i)
theorem lwN_up (T : Nat → Nat) (k v : Nat) : vp_updL (lwN T) k (lN v) = lwN (va_up T k v) := by
  funext i
  unfold vp_updL lwN va_up
  split <;> rfl
theorem arrV_ext {cA : ClassId} {n : Nat} {f g : Nat → Value} (h : ∀ j, j < n → f j = g j) : arrV cA n f = arrV cA n g := by
  unfold arrV
  congr 2
  funext j
  exact h j.val j.isLt
theorem P_extI {D : va_G} {cl : List vw_C} {ws : va_W} {H : Heap} {a n : Nat} {cA : ClassId} {f : Nat → Int32} (hP : va_P D cl ws H) (k : Nat) (he : ws[k]? = some (a, .inl (cA, n, .inl f))) (g : Nat → Int32) (h : ∀ j, j < n → f j = g j) : va_P D cl (ws.set k (a, .inl (cA, n, .inl g))) H := by
  intro i q hi
  by_cases hik : i = k
  · subst hik
    have hl : i < ws.length := (List.getElem?_eq_some_iff.mp he).1
    rw [List.getElem?_set_self hl] at hi
    cases hi
    have h1 := hP i _ he
    show H[a]? = some (arrV cA n (fun j => .int (g j)))
    rw [← arrV_ext (f := fun j => .int (f j)) (fun j hj => by rw [h j hj])]
    exact h1
  · rw [List.getElem?_set_ne (fun e => hik e.symm)] at hi
    exact hP i q hi
theorem P_extJ {D : va_G} {cl : List vw_C} {ws : va_W} {H : Heap} {a n : Nat} {cA : ClassId} {f : Nat → Int64} (hP : va_P D cl ws H) (k : Nat) (he : ws[k]? = some (a, .inl (cA, n, .inr (.inl f)))) (g : Nat → Int64) (h : ∀ j, j < n → f j = g j) : va_P D cl (ws.set k (a, .inl (cA, n, .inr (.inl g)))) H := by
  intro i q hi
  by_cases hik : i = k
  · subst hik
    have hl : i < ws.length := (List.getElem?_eq_some_iff.mp he).1
    rw [List.getElem?_set_self hl] at hi
    cases hi
    have h1 := hP i _ he
    show H[a]? = some (arrV cA n (fun j => .long (g j)))
    rw [← arrV_ext (f := fun j => .long (f j)) (fun j hj => by rw [h j hj])]
    exact h1
  · rw [List.getElem?_set_ne (fun e => hik e.symm)] at hi
    exact hP i q hi
/-! ===== a table with linear probing ===== -/
def slot (h d : Nat) : Nat := (h + d) % 2 ^ 13
theorem slot_lt (h d : Nat) : slot h d < 8192 := Nat.mod_lt _ (by decide)
def HT (h K : Nat → Nat) (n : Nat) (t : Nat → Nat) : Prop :=
  (∀ s, s < 8192 → t s ≤ n) ∧ (∀ j, j < n → ∃ d, d < 8192 ∧ t (slot (h (K j)) d) = j + 1 ∧ ∀ e, e < d → t (slot (h (K j)) e) ≠ 0) ∧ fb_ct (fun s => decide (t s ≠ 0)) 8192 = n
theorem ht_0 (h K : Nat → Nat) : HT h K 0 (fun _ => 0) := ⟨fun _ _ => Nat.le_refl 0, fun j hj => absurd hj (Nat.not_lt_zero j), fb_ct_zero.mpr (fun _ _ => by simp)⟩
theorem ht_no {h K : Nat → Nat} {n x d : Nat} {t : Nat → Nat} (H : HT h K n t) (hp : ∀ e, e < d → t (slot (h x) e) ≠ 0 ∧ K (t (slot (h x) e) - 1) ≠ x) (h0 : t (slot (h x) d) = 0) : ∀ j, j < n → K j ≠ x := by
  intro j hj e
  obtain ⟨dj, h1, h2, h3⟩ := H.2.1 j hj
  rw [e] at h2 h3
  rcases Nat.lt_trichotomy dj d with c | c | c
  · have := (hp dj c).2
    rw [h2, Nat.add_sub_cancel] at this
    exact this e
  · subst c
    rw [h0] at h2
    omega
  · exact h3 d c h0
theorem ht_ins {h K K2 : Nat → Nat} {n x d : Nat} {t : Nat → Nat} (H : HT h K n t) (hd : d < 8192) (hp : ∀ e, e < d → t (slot (h x) e) ≠ 0) (h0 : t (slot (h x) d) = 0) (hK : ∀ j, j < n → K2 j = K j) (hx : K2 n = x) : HT h K2 (n + 1) (va_up t (slot (h x) d) (n + 1)) := by
  obtain ⟨a1, a2, a3⟩ := H
  refine ⟨fun s hs => ?_, fun j hj => ?_, ?_⟩
  · unfold va_up
    split
    · omega
    · have := a1 s hs; omega
  · by_cases hjn : j = n
    · subst hjn
      rw [hx]
      refine ⟨d, hd, va_up_self _ _ _, fun e he => ?_⟩
      by_cases hs : slot (h x) e = slot (h x) d
      · rw [hs, va_up_self]; omega
      · rw [va_up_ne _ _ hs]; exact hp e he
    · have hj2 : j < n := by omega
      rw [hK j hj2]
      obtain ⟨dj, h1, h2, h3⟩ := a2 j hj2
      refine ⟨dj, h1, ?_, fun e he => ?_⟩
      · rw [va_up_ne]
        · exact h2
        · intro q
          rw [q, h0] at h2
          omega
      · by_cases hs : slot (h (K j)) e = slot (h x) d
        · rw [hs, va_up_self]; omega
        · rw [va_up_ne _ _ hs]; exact h3 e he
  · have h1 := fb_ct_upd (fun s => decide (t s ≠ 0)) true (slot_lt (h x) d)
    have h2 : (fun s => decide (va_up t (slot (h x) d) (n + 1) s ≠ 0)) = (fun k => if k = slot (h x) d then true else decide (t k ≠ 0)) := by
      funext k
      unfold va_up
      by_cases hk : k = slot (h x) d
      · simp [hk]
      · simp [hk]
    rw [h2]
    simp only [h0, ne_eq, not_true_eq_false, decide_false, if_true] at h1
    have h3 : (if (false = true) then 1 else 0 : Nat) = 0 := by simp
    rw [h3] at h1
    rw [Nat.add_zero] at h1
    rw [h1]
    rw [a3]
theorem ht_full {h K : Nat → Nat} {n x : Nat} {t : Nat → Nat} (H : HT h K n t) (hn : n < 8192) (hx : h x < 8192) (hp : ∀ e, e < 8192 → t (slot (h x) e) ≠ 0) : False := by
  have h1 : fb_ct (fun s => decide (t s ≠ 0)) 8192 = 8192 := by
    refine fb_ct_all.mpr (fun s hs => ?_)
    have h2 := hp ((s + 8192 - h x) % 8192) (Nat.mod_lt _ (by decide))
    have h3 : slot (h x) ((s + 8192 - h x) % 8192) = s := by
      unfold slot
      omega
    rw [h3] at h2
    exact decide_eq_true h2
  rw [H.2.2] at h1
  omega
/-! ===== the exploration: configuration, index before it, process of the step ===== -/
abbrev BL : Type := List (Nat × Nat × Nat)
def bC (B : BL) (i : Nat) : Nat := (B.getD i (0, 0, 0)).1
def bP (B : BL) (i : Nat) : Nat := (B.getD i (0, 0, 0)).2.1
def bM (B : BL) (i : Nat) : Nat := (B.getD i (0, 0, 0)).2.2
def memB (B : BL) (x : Nat) : Bool := B.any (fun e => decide (e.1 = x))
theorem memB_iff (B : BL) (x : Nat) : memB B x = true ↔ ∃ j, j < B.length ∧ bC B j = x := by
  unfold memB bC
  rw [List.any_eq_true]
  constructor
  · rintro ⟨e, he, h⟩
    obtain ⟨j, hj, rfl⟩ := List.getElem_of_mem he
    exact ⟨j, hj, by rw [List.getD_eq_getElem?_getD, List.getElem?_eq_getElem hj]; exact of_decide_eq_true h⟩
  · rintro ⟨j, hj, h⟩
    refine ⟨B[j], List.getElem_mem hj, ?_⟩
    rw [List.getD_eq_getElem?_getD, List.getElem?_eq_getElem hj] at h
    exact decide_eq_true h
def pushB (B : BL) (x p m : Nat) : BL := if memB B x = true then B else if B.length < 4001 then B ++ [(x, p, m)] else B
theorem push_t {B : BL} {x p m : Nat} (h : ∃ j, j < B.length ∧ bC B j = x) : pushB B x p m = B := by unfold pushB; rw [if_pos ((memB_iff B x).mpr h)]
theorem push_f {B : BL} {x p m : Nat} (h : ∀ j, j < B.length → bC B j ≠ x) (hl : B.length < 4001) : pushB B x p m = B ++ [(x, p, m)] := by
  unfold pushB
  rw [if_neg (fun q => by obtain ⟨j, h1, h2⟩ := (memB_iff B x).mp q; exact h j h1 h2), if_pos hl]
theorem push_full {B : BL} {x p m : Nat} (hl : B.length = 4001) : pushB B x p m = B := by
  unfold pushB
  split
  · rfl
  · rw [if_neg (by omega)]
theorem push_or (B : BL) (x p m : Nat) : pushB B x p m = B ∨ (pushB B x p m = B ++ [(x, p, m)] ∧ B.length < 4001 ∧ ∀ j, j < B.length → bC B j ≠ x) := by
  unfold pushB
  split
  · exact Or.inl rfl
  · rename_i c
    split
    · exact Or.inr ⟨rfl, by assumption, fun j hj e => c ((memB_iff B x).mpr ⟨j, hj, e⟩)⟩
    · exact Or.inl rfl
theorem app_at {B : BL} {e : Nat × Nat × Nat} {i : Nat} (h : i < B.length) : (B ++ [e]).getD i (0, 0, 0) = B.getD i (0, 0, 0) := by
  rw [List.getD_eq_getElem?_getD, List.getD_eq_getElem?_getD, List.getElem?_append_left h]
theorem app_last {B : BL} {e : Nat × Nat × Nat} : (B ++ [e]).getD B.length (0, 0, 0) = e := by
  rw [List.getD_eq_getElem?_getD, List.getElem?_append_right (Nat.le_refl _), Nat.sub_self]
  rfl
theorem push_at {B : BL} {x p m i : Nat} (h : i < B.length) : (pushB B x p m).getD i (0, 0, 0) = B.getD i (0, 0, 0) := by
  rcases push_or B x p m with e | ⟨e, -, -⟩ <;> rw [e]
  exact app_at h
theorem push_len (B : BL) (x p m : Nat) : B.length ≤ (pushB B x p m).length ∧ (pushB B x p m).length ≤ B.length + 1 ∧ (B.length ≤ 4001 → (pushB B x p m).length ≤ 4001) := by
  rcases push_or B x p m with e | ⟨e, h, -⟩ <;> rw [e]
  · exact ⟨by omega, by omega, fun q => q⟩
  · simp
    omega
/-- the steps of the processes p .. p + d - 1 from the c-th configuration -/
def exB (k g c : Nat) : Nat → Nat → BL → BL
  | 0, _, B => B
  | d + 1, p, B => exB k g c d (p + 1) (if stC (bC B c) p = 0 then pushB B (stepC (bC B c) p k g) c p else B)
def bfL (k g n : Nat) : Nat → Nat → BL → BL
  | 0, _, B => B
  | f + 1, c, B => if c < B.length ∧ B.length ≤ 4000 then bfL k g n f (c + 1) (exB k g c n 0 B) else B
def BF (S : Nat → Nat) : BL := bfL (S 0) (S 2) (S 1) 4001 0 [(S 3, 0, 9)]
theorem exB_full {k g c : Nat} : ∀ {d p : Nat} {B : BL}, B.length = 4001 → exB k g c d p B = B
  | 0, _, _, _ => rfl
  | d + 1, p, B, h => by
    unfold exB
    rw [push_full h, ite_self, exB_full h]
theorem bfL_full {k g n f c : Nat} {B : BL} (h : B.length = 4001) : bfL k g n f c B = B := by
  cases f with
  | zero => rfl
  | succ f => unfold bfL; rw [if_neg (by omega)]
