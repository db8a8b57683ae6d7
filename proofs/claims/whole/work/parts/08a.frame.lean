/-! ===== a contract over more cells: the frame rule; a read as an update ===== -/
theorem va_sub_of_map {ws wc : va_W} {isC : List Nat} (hC : isC.map (fun i => ws[i]?) = wc.map some) : isC.filterMap (fun i => ws[i]?) = wc := by
  have h1 : isC.filterMap (fun i => ws[i]?) = (isC.map (fun i => ws[i]?)).filterMap id := by rw [List.filterMap_map]; rfl
  rw [h1, hC, List.filterMap_map]
  exact List.filterMap_some
theorem va_A_sub {ws wc : va_W} {sz : Nat} {isC : List Nat} (hC : isC.map (fun i => ws[i]?) = wc.map some) : ∀ q, va_A wc sz q → va_A ws sz q := by
  intro q h
  rcases h with ⟨k, e, h⟩ | h
  · have h1 : (isC.map (fun i => ws[i]?))[k]? = some (some (q, e)) := by rw [hC, List.getElem?_map, h]; rfl
    rw [List.getElem?_map] at h1
    cases hi : isC[k]? with
    | none => rw [hi] at h1; cases h1
    | some i => rw [hi] at h1; exact Or.inl ⟨i, e, Option.some.inj h1⟩
  · exact Or.inr h
theorem UP.frame {l : Launch} {D : va_G} {ca : Nat → ClassId} {y : MethodName} {ws : List Cond} {fr lo mc ms : Nat} {Wd : va_W} {As : List Value} {Om : Option Value → va_W → Prop} (h : UP l D ca y ws fr lo mc ms Wd As Om)
    (W wr : va_W) (isC isR : List Nat) (hC : isC.map (fun i => W[i]?) = Wd.map some) (hR : isR.map (fun i => W[i]?) = wr.map some) (hnd : va_nd isC = true ∧ va_nd isR = true) (hdis : ∀ i ∈ isR, i ∉ isC) :
    UP l D ca y ws fr lo mc ms W As (fun v W1 => ∃ W2, Om v W2 ∧ W1 = wr ++ W2) := by
  intro sz
  refine MetFree.mono (h sz) ?_ (fun _ _ _ _ _ h => h) ?_
  · intro a s hp
    obtain ⟨h1, h2, h3, h4, h5⟩ := hp
    exact ⟨h1, h2, h3.sub isC (va_sub_of_map hC), h4, (h5.sub isC hnd.1 hC).weaken (fun _ _ _ _ => trivial)⟩
  · intro a s o t hp hq
    obtain ⟨-, hsz, hP, -, hD⟩ := hp
    obtain ⟨⟨⟨v, W1, hv, hO, hP1, hK1, hD1⟩, hz, hk⟩, L, hF, hL⟩ := hq
    subst hsz
    have hsub := va_A_sub (sz := s.heap.size) hC
    obtain ⟨hPj, hDj⟩ := va_join (A0 := va_A W s.heap.size) (wr := wr) (w1 := W1) hP (hD.self (sz := s.heap.size)) isC isR hC hR hnd.2 hdis hk hsub hP1 hD1
    exact ⟨⟨⟨v, wr ++ W1, hv, ⟨W1, hO, rfl⟩, hPj, hK1, hDj⟩, hz, fun q h1 h2 => hk q h1 (fun z => h2 (hsub q z))⟩, L, hF, fun q hq => hsub _ (hL q hq)⟩
theorem UP.mono {l : Launch} {D : va_G} {ca : Nat → ClassId} {y : MethodName} {ws : List Cond} {fr lo mc ms : Nat} {Wd : va_W} {As : List Value} {Om Om2 : Option Value → va_W → Prop} (h : UP l D ca y ws fr lo mc ms Wd As Om) (hO : ∀ v W1, Om v W1 → Om2 v W1) : UP l D ca y ws fr lo mc ms Wd As Om2 := by
  intro sz
  refine MetFree.mono (h sz) (fun _ _ h => h) (fun _ _ _ _ _ h => h) ?_
  intro a s o t hp hq
  obtain ⟨⟨⟨v, W1, hv, hO1, hr⟩, hz⟩, hL⟩ := hq
  exact ⟨⟨⟨v, W1, hv, hO v W1 hO1, hr⟩, hz⟩, hL⟩
/-- the cells behind may be laid in another way -/
theorem UP.out {l : Launch} {D : va_G} {ca : Nat → ClassId} {y : MethodName} {ws : List Cond} {fr lo mc ms : Nat} {Wd : va_W} {As : List Value} {Om Om2 : Option Value → va_W → Prop} (h : UP l D ca y ws fr lo mc ms Wd As Om)
    (hO : ∀ v W1, Om v W1 → ∃ W2, Om2 v W2 ∧ ∀ (A : Nat → Prop) (H : Heap), va_P D vwCl W1 H → va_D A W1 → va_P D vwCl W2 H ∧ va_D A W2) : UP l D ca y ws fr lo mc ms Wd As Om2 := by
  intro sz
  refine MetFree.mono (h sz) (fun _ _ h => h) (fun _ _ _ _ _ h => h) ?_
  intro a s o t hp hq
  obtain ⟨⟨⟨v, W1, hv, hO1, hP1, hK1, hD1⟩, hz⟩, hL⟩ := hq
  obtain ⟨W2, h2, h3⟩ := hO v W1 hO1
  obtain ⟨g1, g2⟩ := h3 _ _ hP1 hD1
  exact ⟨⟨⟨v, W2, hv, h2, g1, hK1, g2⟩, hz⟩, hL⟩
theorem RD.up {l : Launch} {D : va_G} {ca : Nat → ClassId} {y : MethodName} {ws : List Cond} {fr lo : Nat} {Wd : va_W} {As : List Value} {r : Value} (h : RD l D ca y ws fr lo Wd As r) (W : va_W) (is : List Nat) (hs : is.filterMap (fun i => W[i]?) = Wd) :
    UP l D ca y ws fr lo 0 0 W As (one (some r) W) := by
  intro sz
  have h0 : Met l y ws ({ frames := fr, cells := 0, slots := 0, locals := lo }) (rP D ca Wd As) (k2_QcV r) 0 0 (fun _ => False) := h
  refine MetFree.mono h0 ?_ (fun _ _ _ _ _ h => h) ?_
  · intro a s hp
    obtain ⟨h1, h2, h3, h4, h5⟩ := hp
    exact ⟨h1, h3.sub is hs, h4⟩
  · intro a s o t hp hq
    obtain ⟨-, hsz, hP, hK, hD⟩ := hp
    obtain ⟨⟨hv, hh⟩, L, hF, hL⟩ := hq
    subst hsz
    exact ⟨⟨⟨some r, W, hv, ⟨rfl, rfl⟩, by rw [hh]; exact hP, hK.warm hF.2.1, hD.self⟩, by rw [hh]; exact Nat.le_refl _, fun q _ _ => by rw [hh]⟩, L, hF, fun q hq => (hL q hq).elim⟩
/-! ===== worlds in two pieces ===== -/
theorem P_left {D : va_G} {cl : List vw_C} {a b : va_W} {H : Heap} (h : va_P D cl (a ++ b) H) : va_P D cl a H := fun k q hk => h k q (by rw [List.getElem?_append_left (List.getElem?_eq_some_iff.mp hk).1]; exact hk)
theorem P_right {D : va_G} {cl : List vw_C} {a b : va_W} {H : Heap} (h : va_P D cl (a ++ b) H) : va_P D cl b H := fun k q hk => h (a.length + k) q (by rw [List.getElem?_append_right (by omega)]; rw [Nat.add_sub_cancel_left]; exact hk)
theorem D_left {A : Nat → Prop} {a b : va_W} (h : va_D A (a ++ b)) : va_D A a := by
  have g : ∀ (k : Nat) (q : Nat × va_E), a[k]? = some q → (a ++ b)[k]? = some q := fun k q hk => by rw [List.getElem?_append_left (List.getElem?_eq_some_iff.mp hk).1]; exact hk
  exact ⟨fun i j p q hi hj e => h.1 i j p q (g i p hi) (g j q hj) e, fun k q hk => h.2 k q (g k q hk)⟩
theorem D_right {A : Nat → Prop} {a b : va_W} (h : va_D A (a ++ b)) : va_D A b := by
  have g : ∀ (k : Nat) (q : Nat × va_E), b[k]? = some q → (a ++ b)[a.length + k]? = some q := fun k q hk => by rw [List.getElem?_append_right (by omega), Nat.add_sub_cancel_left]; exact hk
  exact ⟨fun i j p q hi hj e => by have := h.1 _ _ p q (g i p hi) (g j q hj) e; omega, fun k q hk => h.2 _ q (g k q hk)⟩
theorem D_cross {A : Nat → Prop} {a b : va_W} (h : va_D A (a ++ b)) (i j : Nat) (p q : Nat × va_E) (hi : a[i]? = some p) (hj : b[j]? = some q) : p.1 ≠ q.1 := by
  intro e
  have hl := (List.getElem?_eq_some_iff.mp hi).1
  have h1 : (a ++ b)[i]? = some p := by rw [List.getElem?_append_left hl]; exact hi
  have h2 : (a ++ b)[a.length + j]? = some q := by rw [List.getElem?_append_right (by omega), Nat.add_sub_cancel_left]; exact hj
  have := h.1 _ _ p q h1 h2 e
  omega
/-- the first piece laid anew -/
theorem PD_re {D : va_G} {cl : List vw_C} {A : Nat → Prop} {a a2 b : va_W} {H : Heap} (perm : List Nat) (hnd : va_nd perm = true) (hp : perm.map (fun i => a[i]?) = a2.map some) (hP : va_P D cl (a ++ b) H) (hD : va_D A (a ++ b)) : va_P D cl (a2 ++ b) H ∧ va_D A (a2 ++ b) := by
  refine ⟨((P_left hP).sub perm (va_sub_of_map hp)).app (P_right hP), va_D.app ((D_left hD).sub perm hnd hp) (D_right hD) ?_⟩
  intro i j p q hi hj
  have h1 : (perm.map (fun i => a[i]?))[i]? = some (some p) := by rw [hp, List.getElem?_map, hi]; rfl
  rw [List.getElem?_map] at h1
  cases hk : perm[i]? with
  | none => rw [hk] at h1; cases h1
  | some k => rw [hk] at h1; exact D_cross hD k j p q (Option.some.inj h1) hj
/-- the pieces in the other order -/
theorem PD_swap {D : va_G} {cl : List vw_C} {A : Nat → Prop} {a b : va_W} {H : Heap} (hP : va_P D cl (a ++ b) H) (hD : va_D A (a ++ b)) : va_P D cl (b ++ a) H ∧ va_D A (b ++ a) :=
  ⟨(P_right hP).app (P_left hP), va_D.app (D_right hD) (D_left hD) (fun i j p q hi hj e => D_cross hD j i q p hj hi e.symm)⟩
/-- the frame rule for a world whose first piece the callee has, the rest being any cells -/
theorem UP.tail {l : Launch} {D : va_G} {ca : Nat → ClassId} {y : MethodName} {ws : List Cond} {fr lo mc ms : Nat} {Wd : va_W} {As : List Value} {Om : Option Value → va_W → Prop} (h : UP l D ca y ws fr lo mc ms Wd As Om) (b : va_W) :
    UP l D ca y ws fr lo mc ms (Wd ++ b) As (fun v W1 => ∃ W2, Om v W2 ∧ W1 = W2 ++ b) := by
  intro sz
  refine MetFree.mono (h sz) ?_ (fun _ _ _ _ _ h => h) ?_
  · intro a s hp
    obtain ⟨h1, h2, h3, h4, h5⟩ := hp
    exact ⟨h1, h2, P_left h3, h4, D_left h5⟩
  · intro a s o t hp hq
    obtain ⟨-, hsz, hP, -, hD⟩ := hp
    obtain ⟨⟨⟨v, W1, hv, hO, hP1, hK1, hD1⟩, hz, hk⟩, L, hF, hL⟩ := hq
    subst hsz
    have hsub : ∀ q, va_A Wd s.heap.size q → va_A (Wd ++ b) s.heap.size q := by
      intro q hq
      rcases hq with ⟨k, e, hq⟩ | hq
      · exact Or.inl ⟨k, e, by rw [List.getElem?_append_left (List.getElem?_eq_some_iff.mp hq).1]; exact hq⟩
      · exact Or.inr hq
    have hb : ∀ (j : Nat) (q : Nat × va_E), b[j]? = some q → q.1 < s.heap.size ∧ ¬ va_A Wd s.heap.size q.1 := by
      intro j q hj
      have hl := (P_right hP j q hj).lt
      refine ⟨hl, fun z => ?_⟩
      rcases z with ⟨k, e, z⟩ | z
      · exact D_cross hD k j (q.1, e) q z hj rfl
      · omega
    refine ⟨⟨⟨v, W1 ++ b, hv, ⟨W1, hO, rfl⟩, hP1.app ((P_right hP).kept (fun j q hj => hk q.1 (hb j q hj).1 (hb j q hj).2)), hK1, va_D.app (hD1.weaken (fun _ q _ z => hsub q.1 z)) ((D_right hD).weaken (fun j q hj _ => Or.inl ⟨Wd.length + j, q.2, by rw [List.getElem?_append_right (by omega), Nat.add_sub_cancel_left]; exact hj⟩)) ?_⟩, hz, fun q h1 h2 => hk q h1 (fun z => h2 (hsub q z))⟩, L, hF, fun q hq => hsub _ (hL q hq)⟩
    intro i j p q hi hj e
    exact (hb j q hj).2 (by rw [← e]; exact hD1.2 i p hi)
