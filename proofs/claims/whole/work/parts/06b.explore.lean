set_option maxHeartbeats 4000000 in
set_option maxRecDepth 100000 in
theorem c_J7_fill_53178 (l : Launch) (D : va_G) (ca : Nat → ClassId) (a n : Nat) (v : Int32) (f : Nat → Int32) (hn : n < 2 ^ 31) : UP l D ca yJ7_fill_53178 wsJ7_fill_53178 0 0 0 0 [(a, .inl (ca 0, n, .inl f))] [.ref a, .int v] (one none [(a, .inl (ca 0, n, .inl ((fun _ => v))))]) := by
  refine UP.start (cc := cJ7_fill_53178) (maxL := 4) (ret := none) (by decide) rfl (Nat.le_of_ble_eq_true rfl) ?_
  intro p_ e_ s_ m_ below_ meth_ c_ A hx hb hml hr hlocks hin hown hts hK hA hP hD hS ls hl
  have hown : s_.vm.findClass RJ7 = some m_.cls := hown
  have hl : lv_has ls 4 [(0, .ref a), (1, .int v)] := hl
  refine lv_iconst (v := nI 0) hx hb dJ7_fill_53178_0 (by decide) ?_
  refine lv_istore_n (lv' := [(2, .int (nI 0)), (0, .ref a), (1, .int v)]) hx hb dJ7_fill_53178_1 rfl hl (by decide) rfl (fun ls hl => ?_)
  refine lv_aload_n hx hb dJ7_fill_53178_2 rfl (lv_at hl 1 rfl) ?_
  refine va_alen (D := D) (v := nI n) hx hb hK.1 hP 0 0 rfl rfl rfl dJ7_fill_53178_3 ?_
  refine lv_istore_n (lv' := [(3, .int (nI n)), (2, .int (nI 0)), (0, .ref a), (1, .int v)]) hx hb dJ7_fill_53178_4 rfl hl (by decide) rfl (fun ls hl => ?_)
  have loop5 : ∀ (N_ : Nat) (i : Nat) (g : Nat → Int32) (hi : i ≤ n) (hg : ∀ j, j < i → g j = v) (hf : n < i + N_), ∀ (H : Heap) (locs : List Loc), va_P D vwCl [(a, .inl (ca 0, n, .inl g))] H → va_D A [(a, .inl (ca 0, n, .inl g))] → va_S A s_.heap H locs → ∀ (ls : Array Slot), lv_has ls 4 [(2, .int (nI i)), (3, .int (nI n)), (0, .ref a), (1, .int v)] → W p_ l e_ ({ frames := 0, cells := 0, slots := 0, locals := 0 }) s_ m_ ([.ref a, .int v]).toArray below_ meth_ c_ H locs 0 0 (MQ below_ (uQA D ca A (one none [(a, .inl (ca 0, n, .inl ((fun _ => v))))])) ([.ref a, .int v]).toArray s_ 0 0 A) (F0 m_ 5 ls []) := by
    intro N_
    induction N_ with
    | zero => intro i g hi hg hf; exfalso; omega
    | succ N_ ih5 =>
      intro i g hi hg hf H locs hP hD hS ls hl
      refine lv_iload_n hx hb dJ7_fill_53178_5 rfl (lv_at hl 0 rfl) ?_
      refine lv_iload_n hx hb dJ7_fill_53178_6 rfl (lv_at hl 1 rfl) ?_
      refine n_ic_ge (tgt := 20) hx hb dJ7_fill_53178_7 (by decide) (by omega) (by omega) (fun c7 => ?_) (fun c7 => ?_)
      · have hP := P_extI hP 0 rfl (fun _ => v) (fun j hj => hg j (by omega))
        have hP : va_P D vwCl [(a, .inl (ca 0, n, .inl (fun _ => v)))] H := hP
        have hD : va_D A [(a, .inl (ca 0, n, .inl (fun _ => v)))] := hD.set (p := 0) rfl
        exact uRetV hx hb hr hlocks hK hP hD hS ⟨rfl, rfl⟩ (Nat.le_of_ble_eq_true rfl) (Nat.le_of_ble_eq_true rfl) dJ7_fill_53178_20
      · refine lv_aload_n hx hb dJ7_fill_53178_10 rfl (lv_at hl 2 rfl) ?_
        refine lv_iload_n hx hb dJ7_fill_53178_11 rfl (lv_at hl 0 rfl) ?_
        refine lv_iload_n hx hb dJ7_fill_53178_12 rfl (lv_at hl 3 rfl) ?_
        refine n_iast (D := D) (ca := ca) hx hb hK.1 hP hD hS 0 (f := g) rfl (by omega) hn dJ7_fill_53178_13 (fun H locs hP hD hS => ?_)
        have hP : va_P D vwCl [(a, .inl (ca 0, n, .inl (upd g i v)))] H := hP
        have hD : va_D A [(a, .inl (ca 0, n, .inl (upd g i v)))] := hD
        refine lv_iinc (v := (nI (i + 1))) (lv' := [(2, .int (nI (i + 1))), (3, .int (nI n)), (0, .ref a), (1, .int v)]) hx hb dJ7_fill_53178_14 hl (k := 0) rfl (show nI i + Int32.ofInt 1 = nI (i + 1) from nI_add _ 1) (by decide) rfl (fun ls hl => ?_)
        refine lv_goto (tgt := 5) hx hb dJ7_fill_53178_17 (by decide) ?_
        exact ih5 (i + 1) ((upd g i v)) (by omega) (fun j hj => by unfold upd; by_cases q : j = i; rw [if_pos q]; (rw [if_neg q]; exact hg j (by omega))) (by omega) H locs hP hD hS ls (lv_sub hl [0, 1, 2, 3] rfl)
  exact loop5 (n + 1) 0 f (by omega) (fun j hj => absurd hj (Nat.not_lt_zero j)) (by omega) _ _ hP hD hS ls (lv_sub hl [1, 0, 2, 3] rfl)

set_option maxHeartbeats 4000000 in
set_option maxRecDepth 100000 in
theorem c_J7_fill_d0a16 (l : Launch) (D : va_G) (ca : Nat → ClassId) (a n : Nat) (v : Int64) (f : Nat → Int64) (hn : n < 2 ^ 31) : UP l D ca yJ7_fill_d0a16 wsJ7_fill_d0a16 0 0 0 0 [(a, .inl (ca 1, n, .inr (.inl f)))] [.ref a, .long v] (one none [(a, .inl (ca 1, n, .inr (.inl ((fun _ => v)))))]) := by
  refine UP.start (cc := cJ7_fill_d0a16) (maxL := 5) (ret := none) (by decide) rfl (Nat.le_of_ble_eq_true rfl) ?_
  intro p_ e_ s_ m_ below_ meth_ c_ A hx hb hml hr hlocks hin hown hts hK hA hP hD hS ls hl
  have hown : s_.vm.findClass RJ7 = some m_.cls := hown
  have hl : lv_has ls 5 [(0, .ref a), (1, .long v)] := hl
  refine lv_iconst (v := nI 0) hx hb dJ7_fill_d0a16_0 (by decide) ?_
  refine lv_istore_n (lv' := [(3, .int (nI 0)), (0, .ref a), (1, .long v)]) hx hb dJ7_fill_d0a16_1 rfl hl (by decide) rfl (fun ls hl => ?_)
  refine lv_aload_n hx hb dJ7_fill_d0a16_2 rfl (lv_at hl 1 rfl) ?_
  refine va_alen (D := D) (v := nI n) hx hb hK.1 hP 0 1 rfl rfl rfl dJ7_fill_d0a16_3 ?_
  refine lv_istore (lv' := [(4, .int (nI n)), (3, .int (nI 0)), (0, .ref a), (1, .long v)]) hx hb dJ7_fill_d0a16_4 hl (by decide) rfl (fun ls hl => ?_)
  have loop6 : ∀ (N_ : Nat) (i : Nat) (g : Nat → Int64) (hi : i ≤ n) (hg : ∀ j, j < i → g j = v) (hf : n < i + N_), ∀ (H : Heap) (locs : List Loc), va_P D vwCl [(a, .inl (ca 1, n, .inr (.inl g)))] H → va_D A [(a, .inl (ca 1, n, .inr (.inl g)))] → va_S A s_.heap H locs → ∀ (ls : Array Slot), lv_has ls 5 [(3, .int (nI i)), (4, .int (nI n)), (0, .ref a), (1, .long v)] → W p_ l e_ ({ frames := 0, cells := 0, slots := 0, locals := 0 }) s_ m_ ([.ref a, .long v]).toArray below_ meth_ c_ H locs 0 0 (MQ below_ (uQA D ca A (one none [(a, .inl (ca 1, n, .inr (.inl ((fun _ => v)))))])) ([.ref a, .long v]).toArray s_ 0 0 A) (F0 m_ 6 ls []) := by
    intro N_
    induction N_ with
    | zero => intro i g hi hg hf; exfalso; omega
    | succ N_ ih6 =>
      intro i g hi hg hf H locs hP hD hS ls hl
      refine lv_iload_n hx hb dJ7_fill_d0a16_6 rfl (lv_at hl 0 rfl) ?_
      refine lv_iload hx hb dJ7_fill_d0a16_7 (lv_at hl 1 rfl) ?_
      refine n_ic_ge (tgt := 22) hx hb dJ7_fill_d0a16_9 (by decide) (by omega) (by omega) (fun c9 => ?_) (fun c9 => ?_)
      · have hP := P_extJ hP 0 rfl (fun _ => v) (fun j hj => hg j (by omega))
        have hP : va_P D vwCl [(a, .inl (ca 1, n, .inr (.inl (fun _ => v))))] H := hP
        have hD : va_D A [(a, .inl (ca 1, n, .inr (.inl (fun _ => v))))] := hD.set (p := 0) rfl
        exact uRetV hx hb hr hlocks hK hP hD hS ⟨rfl, rfl⟩ (Nat.le_of_ble_eq_true rfl) (Nat.le_of_ble_eq_true rfl) dJ7_fill_d0a16_22
      · refine lv_aload_n hx hb dJ7_fill_d0a16_12 rfl (lv_at hl 2 rfl) ?_
        refine lv_iload_n hx hb dJ7_fill_d0a16_13 rfl (lv_at hl 0 rfl) ?_
        refine lv_lload_n hx hb dJ7_fill_d0a16_14 rfl (lv_at hl 3 rfl) ?_
        refine n_last (D := D) (ca := ca) hx hb hK.1 hP hD hS 0 (f := g) rfl (by omega) hn dJ7_fill_d0a16_15 (fun H locs hP hD hS => ?_)
        have hP : va_P D vwCl [(a, .inl (ca 1, n, .inr (.inl (vp_updL g i v))))] H := hP
        have hD : va_D A [(a, .inl (ca 1, n, .inr (.inl (vp_updL g i v))))] := hD
        refine lv_iinc (v := (nI (i + 1))) (lv' := [(3, .int (nI (i + 1))), (4, .int (nI n)), (0, .ref a), (1, .long v)]) hx hb dJ7_fill_d0a16_16 hl (k := 0) rfl (show nI i + Int32.ofInt 1 = nI (i + 1) from nI_add _ 1) (by decide) rfl (fun ls hl => ?_)
        refine lv_goto (tgt := 6) hx hb dJ7_fill_d0a16_19 (by decide) ?_
        exact ih6 (i + 1) ((vp_updL g i v)) (by omega) (fun j hj => by unfold vp_updL; by_cases q : j = i; rw [if_pos q]; (rw [if_neg q]; exact hg j (by omega))) (by omega) H locs hP hD hS ls (lv_sub hl [0, 1, 2, 3] rfl)
  exact loop6 (n + 1) 0 f (by omega) (fun j hj => absurd hj (Nat.not_lt_zero j)) (by omega) _ _ hP hD hS ls (lv_sub hl [1, 0, 2, 3] rfl)

/-! ===== RenamingGrid.Exploration ===== -/
def hcN (C : Nat) : Nat := (lN C * (-7046029254386353131)).toBitVec.toNat
theorem hcN_lt (C : Nat) : hcN C < 2 ^ 64 := (lN C * (-7046029254386353131)).toBitVec.isLt
theorem lN_self (x : Int64) : x = lN x.toBitVec.toNat := wb_inj (by rw [wb_tb]; simp)
theorem hcN_eq (C : Nat) : lN C * (-7046029254386353131) = lN (hcN C) := lN_self (lN C * (-7046029254386353131))
def hX (C : Nat) : Nat := hcN C / 2 ^ 51
theorem hX_lt (C : Nat) : hX C < 8192 := by have := hcN_lt C; unfold hX; omega
theorem sub1 {x : Nat} : nI x - nI 1 = zI x := by
  by_cases h : x = 0
  · subst h; decide
  · rw [pk_sub (by omega), zI_p (by omega)]
theorem lcmp0 {a b : Nat} (ha : a < 2 ^ 54) (hb : b < 2 ^ 54) : lg_cmp (lN a) (lN b) = 0 ↔ a = b := by rw [lg_cmp_eq, pk_lEQ (by omega) (by omega)]
def RB (B : BL) (f : Nat → Int64) (p m : Nat → Int32) : Prop := ∀ i, i < B.length → f i = lN (bC B i) ∧ p i = nI (bP B i) ∧ (0 < i → m i = nI (bM B i))
abbrev exW (ca : Nat → ClassId) (xa fo pa mo ta ou : Nat) (f : Nat → Int64) (p m : Nat → Int32) (t : Nat → Nat) (cnt pr : Nat) : va_W :=
  [(xa, .inr (0, [.ref fo, .ref pa, .ref mo, .ref ta, .ref ou, .int (nI cnt), .int (nI pr)])), (fo, .inl (ca 1, 4000, .inr (.inl f))), (pa, .inl (ca 0, 4000, .inl p)), (mo, .inl (ca 0, 4000, .inl m)), (ta, .inl (ca 0, 8192, .inl (rwN t)))]
/-- the cells hold the exploration B -/
def EXR (B : BL) (f : Nat → Int64) (p m : Nat → Int32) (t : Nat → Nat) (cnt : Nat) : Prop := RB B f p m ∧ HT hX (bC B) B.length t ∧ cnt = B.length ∧ B.length ≤ 4000
/-- what a search leaves -/
def fOm (ca : Nat → ClassId) (xa fo pa mo ta ou pr : Nat) (B2 : BL) (wx : va_W) : Option Value → va_W → Prop := fun v W1 =>
  ∃ (f : Nat → Int64) (p m : Nat → Int32) (t : Nat → Nat) (cnt : Nat), W1 = exW ca xa fo pa mo ta ou f p m t cnt pr ++ wx ∧ ((v = some (.int (nI 1)) ∧ EXR B2 f p m t cnt) ∨ (v = some (.int (nI 0)) ∧ B2.length = 4001))
theorem bC_push {B : BL} {x p m i : Nat} (h : i < B.length) : bC (pushB B x p m) i = bC B i := by unfold bC; rw [push_at h]
theorem bC_app {B : BL} {e : Nat × Nat × Nat} {i : Nat} (h : i < B.length) : bC (B ++ [e]) i = bC B i := by unfold bC; rw [app_at h]
theorem RB_app {B : BL} {f : Nat → Int64} {p m : Nat → Int32} {x par mv : Nat} {q : Int32} (h : RB B f p m) (hq : 0 < B.length → q = nI mv) : RB (B ++ [(x, par, mv)]) (vp_updL f B.length (lN x)) (upd p B.length (nI par)) (upd m B.length q) := by
  intro i hi
  rw [List.length_append, List.length_singleton] at hi
  unfold bC bP bM vp_updL upd
  by_cases c : i = B.length
  · subst c
    rw [if_pos rfl, if_pos rfl, if_pos rfl, app_last]
    exact ⟨rfl, rfl, hq⟩
  · rw [if_neg c, if_neg c, if_neg c, app_at (by omega)]
    exact h i (by omega)
/-- configurations that occur -/
def VC (k C : Nat) : Prop := C < 2 ^ 54 ∧ ∀ p, p < 3 → pOK k C p
def VB (k : Nat) (B : BL) : Prop := ∀ j, j < B.length → VC k (bC B j)
theorem VC_step {k C p g : Nat} (h : VC k C) (hp : p < 3) (hk : 2 ≤ k ∧ k ≤ 4) (hr : stC C p = 0) : VC k (stepC C p k g) := by
  refine ⟨stepC_lt h.1 hp hk.2 (pOK_sp (h.2 p hp)), fun q hq => ?_⟩
  by_cases e : q = p
  · subst e
    exact (step_p hp hk.1 hk.2 hr (h.2 q hq)).1
  · exact pOK_of (fl3_step_other hp hq e hk.2) (h.2 q hq)
theorem VB_push {k : Nat} {B : BL} {x p m : Nat} (h : VB k B) (hx : VC k x) : VB k (pushB B x p m) := by
  rcases push_or B x p m with e | ⟨e, -, -⟩ <;> rw [e]
  · exact h
  · intro j hj
    rw [List.length_append, List.length_singleton] at hj
    by_cases c : j = B.length
    · subst c
      unfold bC
      rw [app_last]
      exact hx
    · rw [bC_app (by omega)]
      exact h j (by omega)
theorem VB_ex {k g c : Nat} (hk : 2 ≤ k ∧ k ≤ 4) : ∀ {d p : Nat} {B : BL}, d + p ≤ 3 → c < B.length → VB k B → VB k (exB k g c d p B)
  | 0, _, _, _, _, h => h
  | d + 1, p, B, hd, hc, h => by
    unfold exB
    split
    · rename_i hr
      exact VB_ex hk (by omega) (Nat.lt_of_lt_of_le hc (push_len _ _ _ _).1) (VB_push h (VC_step (h c hc) (by omega) hk hr))
    · exact VB_ex hk (by omega) hc h
theorem ex_len {k g c : Nat} : ∀ {d p : Nat} {B : BL}, B.length ≤ (exB k g c d p B).length ∧ (B.length ≤ 4001 → (exB k g c d p B).length ≤ 4001)
  | 0, _, _ => ⟨Nat.le_refl _, id⟩
  | d + 1, p, B => by
    unfold exB
    split
    · have h1 := push_len B (stepC (bC B c) p k g) c p
      have h2 := ex_len (k := k) (g := g) (c := c) (d := d) (p := p + 1) (B := pushB B (stepC (bC B c) p k g) c p)
      exact ⟨Nat.le_trans h1.1 h2.1, fun q => h2.2 (h1.2.2 q)⟩
    · exact ex_len
theorem VC_S {S : Nat → Nat} (h : SOK S) : VC (S 0) (S 3) := ⟨h.2.2.2.1, h.2.2.2.2.1⟩

set_option maxHeartbeats 4000000 in
set_option maxRecDepth 100000 in
theorem c_X2_init (l : Launch) (D : va_G) (ca : Nat → ClassId) (xa : Nat) : UP l D ca yX2_init wsX2_init 1 12 5 20256 [(xa, .inr (0, [.null, .null, .null, .null, .null, .int (nI 0), .int (nI 0)]))] [.ref xa] (fun v W1 => v = none ∧ ∃ (fo pa mo ta ou : Nat), W1 = exW ca xa fo pa mo ta ou (fun _ => 0) (fun _ => 0) (fun _ => 0) (fun _ => 0) 0 0 ++ [(ou, .inl (ca 1, 64, .inr (.inl (fun _ => 0))))]) := by
  refine UP.start (cc := cX2_init) (maxL := 1) (ret := none) (by decide) rfl (Nat.le_of_ble_eq_true rfl) ?_
  intro p_ e_ s_ m_ below_ meth_ c_ A hx hb hml hr hlocks hin hown hts hK hA hP hD hS ls hl
  have hown : s_.vm.findClass RX2 = some m_.cls := hown
  have hl : lv_has ls 1 [(0, .ref xa)] := hl
  have hinX20 : ∀ w ∈ wsX20, w ∈ wsX2_init := fun w h => List.mem_cons_of_mem _ (List.mem_append_right _ h)
  refine lv_aload_n hx hb dX2_init_0 rfl (lv_at hl 0 rfl) ?_
  refine W.objInit hx hb hown (hts (.methodLink RX2 3 objectInit) (List.mem_of_getElem? (i := 1) rfl)) (hts (.instanceMethod objectInit) (List.mem_of_getElem? (i := 2) rfl)) (hts (.code objectInit ⟨#[0xb1]⟩ 1 none) (List.mem_of_getElem? (i := 3) rfl)) rfl (by rw [hml]; exact hl.1) rfl dX2_init_1 (Nat.le_of_ble_eq_true rfl) (Nat.le_of_ble_eq_true rfl) ?_
  refine W.eq (g2 := F0 m_ 4 ls []) rfl ?_
  refine lv_aload_n hx hb dX2_init_4 rfl (lv_at hl 0 rfl) ?_
  refine lv_sipush (v := nI 4000) hx hb dX2_init_5 (by decide) ?_
  refine n_newaJ (D := D) (ca := ca) hx hb (hts (.arrayClass .long) (List.mem_of_getElem? (i := 4) rfl)) hK.1 hP hD hS hA (N1 := 4000) (by decide) (by decide) (by decide) (by decide) dX2_init_8 (fun fo H hP hD hS => ?_)
  have hP : va_P D vwCl [(xa, .inr (0, [.null, .null, .null, .null, .null, .int (nI 0), .int (nI 0)])), (fo, .inl (ca 1, 4000, .inr (.inl (fun _ => 0))))] H := hP
  have hD : va_D A [(xa, .inr (0, [.null, .null, .null, .null, .null, .int (nI 0), .int (nI 0)])), (fo, .inl (ca 1, 4000, .inr (.inl (fun _ => 0))))] := hD
  refine W.cs (cells' := 1) (slots' := 4000) (by decide) (by decide) ?_
  refine va_putF (D := D) (ci := 0) (v := .ref fo) (ty := tyX2 0) (C := RX2) (T := TX2) (N := 7) hx hb hts hinX20 tyX2 tyX2_ok nmX2 hown hK.1 hP hD hS 0 rfl rfl 0 (by decide) (hts (.fieldLink RX2 11 "RenamingGrid$Exploration" "found" "[J") (List.mem_of_getElem? (i := 5) rfl)) (fun _ h9 => h9) rfl hin rfl (tyX2_ok 0 (by decide)) rfl rfl (Nat.le_of_ble_eq_true rfl) dX2_init_10 (fun H locs hP hD hS => ?_)
  have hP : va_P D vwCl [(xa, .inr (0, [.ref fo, .null, .null, .null, .null, .int (nI 0), .int (nI 0)])), (fo, .inl (ca 1, 4000, .inr (.inl (fun _ => 0))))] H := hP
  have hD : va_D A [(xa, .inr (0, [.ref fo, .null, .null, .null, .null, .int (nI 0), .int (nI 0)])), (fo, .inl (ca 1, 4000, .inr (.inl (fun _ => 0))))] := hD
  refine lv_aload_n hx hb dX2_init_13 rfl (lv_at hl 0 rfl) ?_
  refine lv_sipush (v := nI 4000) hx hb dX2_init_14 (by decide) ?_
  refine n_newaI (D := D) (ca := ca) hx hb (hts (.arrayClass .int) (List.mem_of_getElem? (i := 6) rfl)) hK.1 hP hD hS hA (N1 := 4000) (by decide) (by decide) (by decide) (by decide) dX2_init_17 (fun pa H hP hD hS => ?_)
  have hP : va_P D vwCl [(xa, .inr (0, [.ref fo, .null, .null, .null, .null, .int (nI 0), .int (nI 0)])), (fo, .inl (ca 1, 4000, .inr (.inl (fun _ => 0)))), (pa, .inl (ca 0, 4000, .inl (fun _ => 0)))] H := hP
  have hD : va_D A [(xa, .inr (0, [.ref fo, .null, .null, .null, .null, .int (nI 0), .int (nI 0)])), (fo, .inl (ca 1, 4000, .inr (.inl (fun _ => 0)))), (pa, .inl (ca 0, 4000, .inl (fun _ => 0)))] := hD
  refine W.cs (cells' := 2) (slots' := 8000) (by decide) (by decide) ?_
  refine va_putF (D := D) (ci := 0) (v := .ref pa) (ty := tyX2 1) (C := RX2) (T := TX2) (N := 7) hx hb hts hinX20 tyX2 tyX2_ok nmX2 hown hK.1 hP hD hS 0 rfl rfl 1 (by decide) (hts (.fieldLink RX2 15 "RenamingGrid$Exploration" "parents" "[I") (List.mem_of_getElem? (i := 7) rfl)) (fun _ h9 => h9) rfl hin rfl (tyX2_ok 1 (by decide)) rfl rfl (Nat.le_of_ble_eq_true rfl) dX2_init_19 (fun H locs hP hD hS => ?_)
  have hP : va_P D vwCl [(xa, .inr (0, [.ref fo, .ref pa, .null, .null, .null, .int (nI 0), .int (nI 0)])), (fo, .inl (ca 1, 4000, .inr (.inl (fun _ => 0)))), (pa, .inl (ca 0, 4000, .inl (fun _ => 0)))] H := hP
  have hD : va_D A [(xa, .inr (0, [.ref fo, .ref pa, .null, .null, .null, .int (nI 0), .int (nI 0)])), (fo, .inl (ca 1, 4000, .inr (.inl (fun _ => 0)))), (pa, .inl (ca 0, 4000, .inl (fun _ => 0)))] := hD
  refine lv_aload_n hx hb dX2_init_22 rfl (lv_at hl 0 rfl) ?_
  refine lv_sipush (v := nI 4000) hx hb dX2_init_23 (by decide) ?_
  refine n_newaI (D := D) (ca := ca) hx hb (hts (.arrayClass .int) (List.mem_of_getElem? (i := 6) rfl)) hK.1 hP hD hS hA (N1 := 4000) (by decide) (by decide) (by decide) (by decide) dX2_init_26 (fun mo H hP hD hS => ?_)
  have hP : va_P D vwCl [(xa, .inr (0, [.ref fo, .ref pa, .null, .null, .null, .int (nI 0), .int (nI 0)])), (fo, .inl (ca 1, 4000, .inr (.inl (fun _ => 0)))), (pa, .inl (ca 0, 4000, .inl (fun _ => 0))), (mo, .inl (ca 0, 4000, .inl (fun _ => 0)))] H := hP
  have hD : va_D A [(xa, .inr (0, [.ref fo, .ref pa, .null, .null, .null, .int (nI 0), .int (nI 0)])), (fo, .inl (ca 1, 4000, .inr (.inl (fun _ => 0)))), (pa, .inl (ca 0, 4000, .inl (fun _ => 0))), (mo, .inl (ca 0, 4000, .inl (fun _ => 0)))] := hD
  refine W.cs (cells' := 3) (slots' := 12000) (by decide) (by decide) ?_
  refine va_putF (D := D) (ci := 0) (v := .ref mo) (ty := tyX2 2) (C := RX2) (T := TX2) (N := 7) hx hb hts hinX20 tyX2 tyX2_ok nmX2 hown hK.1 hP hD hS 0 rfl rfl 2 (by decide) (hts (.fieldLink RX2 19 "RenamingGrid$Exploration" "movers" "[I") (List.mem_of_getElem? (i := 8) rfl)) (fun _ h9 => h9) rfl hin rfl (tyX2_ok 2 (by decide)) rfl rfl (Nat.le_of_ble_eq_true rfl) dX2_init_28 (fun H locs hP hD hS => ?_)
  have hP : va_P D vwCl [(xa, .inr (0, [.ref fo, .ref pa, .ref mo, .null, .null, .int (nI 0), .int (nI 0)])), (fo, .inl (ca 1, 4000, .inr (.inl (fun _ => 0)))), (pa, .inl (ca 0, 4000, .inl (fun _ => 0))), (mo, .inl (ca 0, 4000, .inl (fun _ => 0)))] H := hP
  have hD : va_D A [(xa, .inr (0, [.ref fo, .ref pa, .ref mo, .null, .null, .int (nI 0), .int (nI 0)])), (fo, .inl (ca 1, 4000, .inr (.inl (fun _ => 0)))), (pa, .inl (ca 0, 4000, .inl (fun _ => 0))), (mo, .inl (ca 0, 4000, .inl (fun _ => 0)))] := hD
  refine lv_aload_n hx hb dX2_init_31 rfl (lv_at hl 0 rfl) ?_
  refine lv_sipush (v := nI 8192) hx hb dX2_init_32 (by decide) ?_
  refine n_newaI (D := D) (ca := ca) hx hb (hts (.arrayClass .int) (List.mem_of_getElem? (i := 6) rfl)) hK.1 hP hD hS hA (N1 := 8192) (by decide) (by decide) (by decide) (by decide) dX2_init_35 (fun ta H hP hD hS => ?_)
  have hP : va_P D vwCl [(xa, .inr (0, [.ref fo, .ref pa, .ref mo, .null, .null, .int (nI 0), .int (nI 0)])), (fo, .inl (ca 1, 4000, .inr (.inl (fun _ => 0)))), (pa, .inl (ca 0, 4000, .inl (fun _ => 0))), (mo, .inl (ca 0, 4000, .inl (fun _ => 0))), (ta, .inl (ca 0, 8192, .inl (fun _ => 0)))] H := hP
  have hD : va_D A [(xa, .inr (0, [.ref fo, .ref pa, .ref mo, .null, .null, .int (nI 0), .int (nI 0)])), (fo, .inl (ca 1, 4000, .inr (.inl (fun _ => 0)))), (pa, .inl (ca 0, 4000, .inl (fun _ => 0))), (mo, .inl (ca 0, 4000, .inl (fun _ => 0))), (ta, .inl (ca 0, 8192, .inl (fun _ => 0)))] := hD
  refine W.cs (cells' := 4) (slots' := 20192) (by decide) (by decide) ?_
  refine va_putF (D := D) (ci := 0) (v := .ref ta) (ty := tyX2 3) (C := RX2) (T := TX2) (N := 7) hx hb hts hinX20 tyX2 tyX2_ok nmX2 hown hK.1 hP hD hS 0 rfl rfl 3 (by decide) (hts (.fieldLink RX2 22 "RenamingGrid$Exploration" "table" "[I") (List.mem_of_getElem? (i := 9) rfl)) (fun _ h9 => h9) rfl hin rfl (tyX2_ok 3 (by decide)) rfl rfl (Nat.le_of_ble_eq_true rfl) dX2_init_37 (fun H locs hP hD hS => ?_)
  have hP : va_P D vwCl [(xa, .inr (0, [.ref fo, .ref pa, .ref mo, .ref ta, .null, .int (nI 0), .int (nI 0)])), (fo, .inl (ca 1, 4000, .inr (.inl (fun _ => 0)))), (pa, .inl (ca 0, 4000, .inl (fun _ => 0))), (mo, .inl (ca 0, 4000, .inl (fun _ => 0))), (ta, .inl (ca 0, 8192, .inl (fun _ => 0)))] H := hP
  have hD : va_D A [(xa, .inr (0, [.ref fo, .ref pa, .ref mo, .ref ta, .null, .int (nI 0), .int (nI 0)])), (fo, .inl (ca 1, 4000, .inr (.inl (fun _ => 0)))), (pa, .inl (ca 0, 4000, .inl (fun _ => 0))), (mo, .inl (ca 0, 4000, .inl (fun _ => 0))), (ta, .inl (ca 0, 8192, .inl (fun _ => 0)))] := hD
  refine lv_aload_n hx hb dX2_init_40 rfl (lv_at hl 0 rfl) ?_
  refine lv_bipush (v := nI 64) hx hb dX2_init_41 (by decide) ?_
  refine n_newaJ (D := D) (ca := ca) hx hb (hts (.arrayClass .long) (List.mem_of_getElem? (i := 4) rfl)) hK.1 hP hD hS hA (N1 := 64) (by decide) (by decide) (by decide) (by decide) dX2_init_43 (fun ou H hP hD hS => ?_)
  have hP : va_P D vwCl [(xa, .inr (0, [.ref fo, .ref pa, .ref mo, .ref ta, .null, .int (nI 0), .int (nI 0)])), (fo, .inl (ca 1, 4000, .inr (.inl (fun _ => 0)))), (pa, .inl (ca 0, 4000, .inl (fun _ => 0))), (mo, .inl (ca 0, 4000, .inl (fun _ => 0))), (ta, .inl (ca 0, 8192, .inl (fun _ => 0))), (ou, .inl (ca 1, 64, .inr (.inl (fun _ => 0))))] H := hP
  have hD : va_D A [(xa, .inr (0, [.ref fo, .ref pa, .ref mo, .ref ta, .null, .int (nI 0), .int (nI 0)])), (fo, .inl (ca 1, 4000, .inr (.inl (fun _ => 0)))), (pa, .inl (ca 0, 4000, .inl (fun _ => 0))), (mo, .inl (ca 0, 4000, .inl (fun _ => 0))), (ta, .inl (ca 0, 8192, .inl (fun _ => 0))), (ou, .inl (ca 1, 64, .inr (.inl (fun _ => 0))))] := hD
  refine W.cs (cells' := 5) (slots' := 20256) (by decide) (by decide) ?_
  refine va_putF (D := D) (ci := 0) (v := .ref ou) (ty := tyX2 4) (C := RX2) (T := TX2) (N := 7) hx hb hts hinX20 tyX2 tyX2_ok nmX2 hown hK.1 hP hD hS 0 rfl rfl 4 (by decide) (hts (.fieldLink RX2 25 "RenamingGrid$Exploration" "outcomes" "[J") (List.mem_of_getElem? (i := 10) rfl)) (fun _ h9 => h9) rfl hin rfl (tyX2_ok 4 (by decide)) rfl rfl (Nat.le_of_ble_eq_true rfl) dX2_init_45 (fun H locs hP hD hS => ?_)
  have hP : va_P D vwCl [(xa, .inr (0, [.ref fo, .ref pa, .ref mo, .ref ta, .ref ou, .int (nI 0), .int (nI 0)])), (fo, .inl (ca 1, 4000, .inr (.inl (fun _ => 0)))), (pa, .inl (ca 0, 4000, .inl (fun _ => 0))), (mo, .inl (ca 0, 4000, .inl (fun _ => 0))), (ta, .inl (ca 0, 8192, .inl (fun _ => 0))), (ou, .inl (ca 1, 64, .inr (.inl (fun _ => 0))))] H := hP
  have hD : va_D A [(xa, .inr (0, [.ref fo, .ref pa, .ref mo, .ref ta, .ref ou, .int (nI 0), .int (nI 0)])), (fo, .inl (ca 1, 4000, .inr (.inl (fun _ => 0)))), (pa, .inl (ca 0, 4000, .inl (fun _ => 0))), (mo, .inl (ca 0, 4000, .inl (fun _ => 0))), (ta, .inl (ca 0, 8192, .inl (fun _ => 0))), (ou, .inl (ca 1, 64, .inr (.inl (fun _ => 0))))] := hD
  exact uRetV hx hb hr hlocks hK hP hD hS ⟨rfl, fo, pa, mo, ta, ou, rfl⟩ (Nat.le_of_ble_eq_true rfl) (Nat.le_of_ble_eq_true rfl) dX2_init_48

set_option maxHeartbeats 4000000 in
set_option maxRecDepth 100000 in
theorem c_X2_foundAt (l : Launch) (D : va_G) (ca : Nat → ClassId) (xa fo pa mo ta ou : Nat) (cnt pr : Nat) (f : Nat → Int64) (i : Nat) (hi : i < 4000) : RD l D ca yX2_foundAt wsX2_foundAt 0 0 [(xa, .inr (0, [.ref fo, .ref pa, .ref mo, .ref ta, .ref ou, .int (nI cnt), .int (nI pr)])), (fo, .inl (ca 1, 4000, .inr (.inl f)))] [.ref xa, .int (nI i)] (.long ((f i))) := by
  refine RD.start (cc := cX2_foundAt) (maxL := 2) (ret := (some .long)) (by decide) rfl (Nat.le_of_ble_eq_true rfl) ?_
  intro p_ e_ s_ m_ below_ meth_ c_ hx hb hml hr hlocks hown hts hP hK ls hl
  have hown : s_.vm.findClass RX2 = some m_.cls := hown
  have hl : lv_has ls 2 [(0, .ref xa), (1, .int (nI i))] := hl
  have hinX20 : ∀ w ∈ wsX20, w ∈ wsX2_foundAt := fun w h => List.mem_cons_of_mem _ (List.mem_append_right _ h)
  refine lv_iload_n hx hb dX2_foundAt_0 rfl (lv_at hl 1 rfl) ?_
  refine n_if_lt (tgt := 22) hx hb dX2_foundAt_1 (by decide) (by omega) ?_
  refine lv_iload_n hx hb dX2_foundAt_4 rfl (lv_at hl 1 rfl) ?_
  refine lv_aload_n hx hb dX2_foundAt_5 rfl (lv_at hl 0 rfl) ?_
  refine va_get (D := D) (ci := 0) (v := .ref fo) (C := RX2) (T := TX2) (N := 7) hx hb hts hinX20 hown hK.1 hP 0 rfl rfl 0 (by decide) (hts (.fieldLink RX2 11 "RenamingGrid$Exploration" "found" "[J") (List.mem_of_getElem? (i := 1) rfl)) (fun _ h9 => h9) rfl dX2_foundAt_6 ?_
  refine va_alen (D := D) (v := nI 4000) hx hb hK.1 hP 1 1 rfl rfl rfl dX2_foundAt_9 ?_
  refine n_ic_ge (tgt := 22) hx hb dX2_foundAt_10 (by decide) (by omega) (by decide) (fun c10 => absurd c10 (by omega)) (fun c10 => ?_)
  refine lv_aload_n hx hb dX2_foundAt_13 rfl (lv_at hl 0 rfl) ?_
  refine va_get (D := D) (ci := 0) (v := .ref fo) (C := RX2) (T := TX2) (N := 7) hx hb hts hinX20 hown hK.1 hP 0 rfl rfl 0 (by decide) (hts (.fieldLink RX2 11 "RenamingGrid$Exploration" "found" "[J") (List.mem_of_getElem? (i := 1) rfl)) (fun _ h9 => h9) rfl dX2_foundAt_14 ?_
  refine lv_iload_n hx hb dX2_foundAt_17 rfl (lv_at hl 1 rfl) ?_
  refine n_lald (D := D) (ca := ca) (v := ((f i))) hx hb hK.1 hP 1 (f := f) rfl (by omega) (by decide) rfl dX2_foundAt_18 ?_
  refine lv_goto (tgt := 23) hx hb dX2_foundAt_19 (by decide) ?_
  exact rRetL hx hb hr hlocks rfl dX2_foundAt_23

set_option maxHeartbeats 4000000 in
set_option maxRecDepth 100000 in
theorem c_X2_keep_y (l : Launch) (D : va_G) (ca : Nat → ClassId) (xa fo pa mo ta ou : Nat) (cnt pr : Nat) (f : Nat → Int64) (p m : Nat → Int32) (x par : Nat) (q : Int32) (hc : cnt < 4000) : UP l D ca yX2_keep wsX2_keep 0 0 0 0 [(xa, .inr (0, [.ref fo, .ref pa, .ref mo, .ref ta, .ref ou, .int (nI cnt), .int (nI pr)])), (fo, .inl (ca 1, 4000, .inr (.inl f))), (pa, .inl (ca 0, 4000, .inl p)), (mo, .inl (ca 0, 4000, .inl m))] [.ref xa, .long (lN x), .int (nI par), .int q] (one (some (.int (nI 1))) [(xa, .inr (0, [.ref fo, .ref pa, .ref mo, .ref ta, .ref ou, .int (nI (cnt + 1)), .int (nI pr)])), (fo, .inl (ca 1, 4000, .inr (.inl (vp_updL f cnt (lN x))))), (pa, .inl (ca 0, 4000, .inl (upd p cnt (nI par)))), (mo, .inl (ca 0, 4000, .inl (upd m cnt q)))]) := by
  refine UP.start (cc := cX2_keep) (maxL := 5) (ret := (some .boolean)) (by decide) rfl (Nat.le_of_ble_eq_true rfl) ?_
  intro p_ e_ s_ m_ below_ meth_ c_ A hx hb hml hr hlocks hin hown hts hK hA hP hD hS ls hl
  have hown : s_.vm.findClass RX2 = some m_.cls := hown
  have hl : lv_has ls 5 [(0, .ref xa), (1, .long (lN x)), (3, .int (nI par)), (4, .int q)] := hl
  have hinX20 : ∀ w ∈ wsX20, w ∈ wsX2_keep := fun w h => List.mem_cons_of_mem _ (List.mem_append_right _ h)
  refine lv_aload_n hx hb dX2_keep_0 rfl (lv_at hl 0 rfl) ?_
  refine va_get (D := D) (ci := 0) (v := .int (nI cnt)) (C := RX2) (T := TX2) (N := 7) hx hb hts hinX20 hown hK.1 hP 0 rfl rfl 5 (by decide) (hts (.fieldLink RX2 34 "RenamingGrid$Exploration" "count" "I") (List.mem_of_getElem? (i := 1) rfl)) (fun _ h9 => h9) rfl dX2_keep_1 ?_
  refine n_if_lt (tgt := 17) hx hb dX2_keep_4 (by decide) (by omega) ?_
  refine lv_aload_n hx hb dX2_keep_7 rfl (lv_at hl 0 rfl) ?_
  refine va_get (D := D) (ci := 0) (v := .int (nI cnt)) (C := RX2) (T := TX2) (N := 7) hx hb hts hinX20 hown hK.1 hP 0 rfl rfl 5 (by decide) (hts (.fieldLink RX2 34 "RenamingGrid$Exploration" "count" "I") (List.mem_of_getElem? (i := 1) rfl)) (fun _ h9 => h9) rfl dX2_keep_8 ?_
  refine lv_sipush (v := nI 4000) hx hb dX2_keep_11 (by decide) ?_
  refine n_ic_lt (tgt := 19) hx hb dX2_keep_14 (by decide) (by omega) (by decide) (fun c14 => ?_) (fun c14 => absurd c14 (by omega))
  refine lv_aload_n hx hb dX2_keep_19 rfl (lv_at hl 0 rfl) ?_
  refine va_get (D := D) (ci := 0) (v := .ref fo) (C := RX2) (T := TX2) (N := 7) hx hb hts hinX20 hown hK.1 hP 0 rfl rfl 0 (by decide) (hts (.fieldLink RX2 11 "RenamingGrid$Exploration" "found" "[J") (List.mem_of_getElem? (i := 2) rfl)) (fun _ h9 => h9) rfl dX2_keep_20 ?_
  refine lv_aload_n hx hb dX2_keep_23 rfl (lv_at hl 0 rfl) ?_
  refine va_get (D := D) (ci := 0) (v := .int (nI cnt)) (C := RX2) (T := TX2) (N := 7) hx hb hts hinX20 hown hK.1 hP 0 rfl rfl 5 (by decide) (hts (.fieldLink RX2 34 "RenamingGrid$Exploration" "count" "I") (List.mem_of_getElem? (i := 1) rfl)) (fun _ h9 => h9) rfl dX2_keep_24 ?_
  refine lv_lload_n hx hb dX2_keep_27 rfl (lv_at hl 1 rfl) ?_
  refine n_last (D := D) (ca := ca) hx hb hK.1 hP hD hS 1 (f := f) rfl (by omega) (by decide) dX2_keep_28 (fun H locs hP hD hS => ?_)
  have hP : va_P D vwCl [(xa, .inr (0, [.ref fo, .ref pa, .ref mo, .ref ta, .ref ou, .int (nI cnt), .int (nI pr)])), (fo, .inl (ca 1, 4000, .inr (.inl (vp_updL f cnt (lN x))))), (pa, .inl (ca 0, 4000, .inl p)), (mo, .inl (ca 0, 4000, .inl m))] H := hP
  have hD : va_D A [(xa, .inr (0, [.ref fo, .ref pa, .ref mo, .ref ta, .ref ou, .int (nI cnt), .int (nI pr)])), (fo, .inl (ca 1, 4000, .inr (.inl (vp_updL f cnt (lN x))))), (pa, .inl (ca 0, 4000, .inl p)), (mo, .inl (ca 0, 4000, .inl m))] := hD
  refine lv_aload_n hx hb dX2_keep_29 rfl (lv_at hl 0 rfl) ?_
  refine va_get (D := D) (ci := 0) (v := .ref pa) (C := RX2) (T := TX2) (N := 7) hx hb hts hinX20 hown hK.1 hP 0 rfl rfl 1 (by decide) (hts (.fieldLink RX2 15 "RenamingGrid$Exploration" "parents" "[I") (List.mem_of_getElem? (i := 3) rfl)) (fun _ h9 => h9) rfl dX2_keep_30 ?_
  refine lv_aload_n hx hb dX2_keep_33 rfl (lv_at hl 0 rfl) ?_
  refine va_get (D := D) (ci := 0) (v := .int (nI cnt)) (C := RX2) (T := TX2) (N := 7) hx hb hts hinX20 hown hK.1 hP 0 rfl rfl 5 (by decide) (hts (.fieldLink RX2 34 "RenamingGrid$Exploration" "count" "I") (List.mem_of_getElem? (i := 1) rfl)) (fun _ h9 => h9) rfl dX2_keep_34 ?_
  refine lv_iload_n hx hb dX2_keep_37 rfl (lv_at hl 2 rfl) ?_
  refine n_iast (D := D) (ca := ca) hx hb hK.1 hP hD hS 2 (f := p) rfl (by omega) (by decide) dX2_keep_38 (fun H locs hP hD hS => ?_)
  have hP : va_P D vwCl [(xa, .inr (0, [.ref fo, .ref pa, .ref mo, .ref ta, .ref ou, .int (nI cnt), .int (nI pr)])), (fo, .inl (ca 1, 4000, .inr (.inl (vp_updL f cnt (lN x))))), (pa, .inl (ca 0, 4000, .inl (upd p cnt (nI par)))), (mo, .inl (ca 0, 4000, .inl m))] H := hP
  have hD : va_D A [(xa, .inr (0, [.ref fo, .ref pa, .ref mo, .ref ta, .ref ou, .int (nI cnt), .int (nI pr)])), (fo, .inl (ca 1, 4000, .inr (.inl (vp_updL f cnt (lN x))))), (pa, .inl (ca 0, 4000, .inl (upd p cnt (nI par)))), (mo, .inl (ca 0, 4000, .inl m))] := hD
  refine lv_aload_n hx hb dX2_keep_39 rfl (lv_at hl 0 rfl) ?_
  refine va_get (D := D) (ci := 0) (v := .ref mo) (C := RX2) (T := TX2) (N := 7) hx hb hts hinX20 hown hK.1 hP 0 rfl rfl 2 (by decide) (hts (.fieldLink RX2 19 "RenamingGrid$Exploration" "movers" "[I") (List.mem_of_getElem? (i := 4) rfl)) (fun _ h9 => h9) rfl dX2_keep_40 ?_
  refine lv_aload_n hx hb dX2_keep_43 rfl (lv_at hl 0 rfl) ?_
  refine va_get (D := D) (ci := 0) (v := .int (nI cnt)) (C := RX2) (T := TX2) (N := 7) hx hb hts hinX20 hown hK.1 hP 0 rfl rfl 5 (by decide) (hts (.fieldLink RX2 34 "RenamingGrid$Exploration" "count" "I") (List.mem_of_getElem? (i := 1) rfl)) (fun _ h9 => h9) rfl dX2_keep_44 ?_
  refine lv_iload hx hb dX2_keep_47 (lv_at hl 3 rfl) ?_
  refine n_iast (D := D) (ca := ca) hx hb hK.1 hP hD hS 3 (f := m) rfl (by omega) (by decide) dX2_keep_49 (fun H locs hP hD hS => ?_)
  have hP : va_P D vwCl [(xa, .inr (0, [.ref fo, .ref pa, .ref mo, .ref ta, .ref ou, .int (nI cnt), .int (nI pr)])), (fo, .inl (ca 1, 4000, .inr (.inl (vp_updL f cnt (lN x))))), (pa, .inl (ca 0, 4000, .inl (upd p cnt (nI par)))), (mo, .inl (ca 0, 4000, .inl (upd m cnt q)))] H := hP
  have hD : va_D A [(xa, .inr (0, [.ref fo, .ref pa, .ref mo, .ref ta, .ref ou, .int (nI cnt), .int (nI pr)])), (fo, .inl (ca 1, 4000, .inr (.inl (vp_updL f cnt (lN x))))), (pa, .inl (ca 0, 4000, .inl (upd p cnt (nI par)))), (mo, .inl (ca 0, 4000, .inl (upd m cnt q)))] := hD
  refine lv_aload_n hx hb dX2_keep_50 rfl (lv_at hl 0 rfl) ?_
  refine lv_dup hx hb dX2_keep_51 rfl ?_
  refine va_get (D := D) (ci := 0) (v := .int (nI cnt)) (C := RX2) (T := TX2) (N := 7) hx hb hts hinX20 hown hK.1 hP 0 rfl rfl 5 (by decide) (hts (.fieldLink RX2 34 "RenamingGrid$Exploration" "count" "I") (List.mem_of_getElem? (i := 1) rfl)) (fun _ h9 => h9) rfl dX2_keep_52 ?_
  refine lv_iconst (v := nI 1) hx hb dX2_keep_55 (by decide) ?_
  refine n_iadd hx hb dX2_keep_56 ?_
  refine va_put (D := D) (ci := 0) (v := .int (nI (cnt + 1))) (ty := tyX2 5) (C := RX2) (T := TX2) (N := 7) hx hb hts hinX20 tyX2 tyX2_ok nmX2 hown hK.1 hP hD hS 0 rfl rfl 5 (by decide) (hts (.fieldLink RX2 34 "RenamingGrid$Exploration" "count" "I") (List.mem_of_getElem? (i := 1) rfl)) (fun _ h9 => h9) rfl (tyX2_ok 5 (by decide)) rfl rfl (Nat.le_of_ble_eq_true rfl) dX2_keep_57 (fun H locs hP hD hS => ?_)
  have hP : va_P D vwCl [(xa, .inr (0, [.ref fo, .ref pa, .ref mo, .ref ta, .ref ou, .int (nI (cnt + 1)), .int (nI pr)])), (fo, .inl (ca 1, 4000, .inr (.inl (vp_updL f cnt (lN x))))), (pa, .inl (ca 0, 4000, .inl (upd p cnt (nI par)))), (mo, .inl (ca 0, 4000, .inl (upd m cnt q)))] H := hP
  have hD : va_D A [(xa, .inr (0, [.ref fo, .ref pa, .ref mo, .ref ta, .ref ou, .int (nI (cnt + 1)), .int (nI pr)])), (fo, .inl (ca 1, 4000, .inr (.inl (vp_updL f cnt (lN x))))), (pa, .inl (ca 0, 4000, .inl (upd p cnt (nI par)))), (mo, .inl (ca 0, 4000, .inl (upd m cnt q)))] := hD
  refine lv_iconst (v := nI 1) hx hb dX2_keep_60 (by decide) ?_
  exact uRetZ hx hb hr hlocks hK hP hD hS rfl ⟨rfl, rfl⟩ (Nat.le_of_ble_eq_true rfl) (Nat.le_of_ble_eq_true rfl) dX2_keep_61

set_option maxHeartbeats 4000000 in
set_option maxRecDepth 100000 in
theorem c_X2_keep_n (l : Launch) (D : va_G) (ca : Nat → ClassId) (xa fo pa mo ta ou : Nat) (cnt pr : Nat) (f : Nat → Int64) (p m : Nat → Int32) (x par : Nat) (q : Int32) (hc : cnt = 4000) : UP l D ca yX2_keep wsX2_keep 0 0 0 0 [(xa, .inr (0, [.ref fo, .ref pa, .ref mo, .ref ta, .ref ou, .int (nI cnt), .int (nI pr)])), (fo, .inl (ca 1, 4000, .inr (.inl f))), (pa, .inl (ca 0, 4000, .inl p)), (mo, .inl (ca 0, 4000, .inl m))] [.ref xa, .long (lN x), .int (nI par), .int q] (one (some (.int (nI 0))) [(xa, .inr (0, [.ref fo, .ref pa, .ref mo, .ref ta, .ref ou, .int (nI cnt), .int (nI pr)])), (fo, .inl (ca 1, 4000, .inr (.inl f))), (pa, .inl (ca 0, 4000, .inl p)), (mo, .inl (ca 0, 4000, .inl m))]) := by
  refine UP.start (cc := cX2_keep) (maxL := 5) (ret := (some .boolean)) (by decide) rfl (Nat.le_of_ble_eq_true rfl) ?_
  intro p_ e_ s_ m_ below_ meth_ c_ A hx hb hml hr hlocks hin hown hts hK hA hP hD hS ls hl
  have hown : s_.vm.findClass RX2 = some m_.cls := hown
  have hl : lv_has ls 5 [(0, .ref xa), (1, .long (lN x)), (3, .int (nI par)), (4, .int q)] := hl
  have hinX20 : ∀ w ∈ wsX20, w ∈ wsX2_keep := fun w h => List.mem_cons_of_mem _ (List.mem_append_right _ h)
  refine lv_aload_n hx hb dX2_keep_0 rfl (lv_at hl 0 rfl) ?_
  refine va_get (D := D) (ci := 0) (v := .int (nI cnt)) (C := RX2) (T := TX2) (N := 7) hx hb hts hinX20 hown hK.1 hP 0 rfl rfl 5 (by decide) (hts (.fieldLink RX2 34 "RenamingGrid$Exploration" "count" "I") (List.mem_of_getElem? (i := 1) rfl)) (fun _ h9 => h9) rfl dX2_keep_1 ?_
  refine n_if_lt (tgt := 17) hx hb dX2_keep_4 (by decide) (by omega) ?_
  refine lv_aload_n hx hb dX2_keep_7 rfl (lv_at hl 0 rfl) ?_
  refine va_get (D := D) (ci := 0) (v := .int (nI cnt)) (C := RX2) (T := TX2) (N := 7) hx hb hts hinX20 hown hK.1 hP 0 rfl rfl 5 (by decide) (hts (.fieldLink RX2 34 "RenamingGrid$Exploration" "count" "I") (List.mem_of_getElem? (i := 1) rfl)) (fun _ h9 => h9) rfl dX2_keep_8 ?_
  refine lv_sipush (v := nI 4000) hx hb dX2_keep_11 (by decide) ?_
  refine n_ic_lt (tgt := 19) hx hb dX2_keep_14 (by decide) (by omega) (by decide) (fun c14 => absurd c14 (by omega)) (fun c14 => ?_)
  refine lv_iconst (v := nI 0) hx hb dX2_keep_17 (by decide) ?_
  exact uRetZ hx hb hr hlocks hK hP hD hS rfl ⟨rfl, rfl⟩ (Nat.le_of_ble_eq_true rfl) (Nat.le_of_ble_eq_true rfl) dX2_keep_18

set_option maxHeartbeats 4000000 in
set_option maxRecDepth 100000 in
theorem c_X2_find (l : Launch) (D : va_G) (ca : Nat → ClassId) (xa fo pa mo ta ou : Nat) (pr : Nat) (B : BL) (f : Nat → Int64) (p m : Nat → Int32) (t : Nat → Nat) (x par mv : Nat) (q : Int32) (hR : RB B f p m) (hH : HT hX (bC B) B.length t) (hB : B.length ≤ 4000) (hx0 : x < 2 ^ 54) (hV : ∀ j, j < B.length → bC B j < 2 ^ 54) (hq : 0 < B.length → q = nI mv) : UP l D ca yX2_find wsX2_find 1 24 0 0 [(xa, .inr (0, [.ref fo, .ref pa, .ref mo, .ref ta, .ref ou, .int (nI B.length), .int (nI pr)])), (fo, .inl (ca 1, 4000, .inr (.inl f))), (pa, .inl (ca 0, 4000, .inl p)), (mo, .inl (ca 0, 4000, .inl m)), (ta, .inl (ca 0, 8192, .inl (rwN t)))] [.ref xa, .long (lN x), .int (nI par), .int q] (fOm ca xa fo pa mo ta ou pr (pushB B x par mv) []) := by
  refine UP.start (cc := cX2_find) (maxL := 9) (ret := (some .boolean)) (by decide) rfl (Nat.le_of_ble_eq_true rfl) ?_
  intro p_ e_ s_ m_ below_ meth_ c_ A hx hb hml hr hlocks hin hown hts hK hA hP hD hS ls hl
  have hown : s_.vm.findClass RX2 = some m_.cls := hown
  have hl : lv_has ls 9 [(0, .ref xa), (1, .long (lN x)), (3, .int (nI par)), (4, .int q)] := hl
  have hinX20 : ∀ w ∈ wsX20, w ∈ wsX2_find := fun w h => List.mem_cons_of_mem _ (List.mem_append_right _ h)
  refine lv_lload_n hx hb dX2_find_0 rfl (lv_at hl 1 rfl) ?_
  refine lv_ldc2 (v := -7046029254386353131) hx hb hown (hts (.constantLong RX2 76 (-7046029254386353131)) (List.mem_of_getElem? (i := 1) rfl)) dX2_find_1 ?_
  refine lv_lmul hx hb dX2_find_4 ?_
  rw [show (((lN x) * ((-7046029254386353131)))) = (lN (hcN x)) from hcN_eq x]
  refine lv_bipush (v := nI 51) hx hb dX2_find_5 (by decide) ?_
  refine n_lushr hx hb (hcN_lt x) (by omega) dX2_find_7 ?_
  refine n_l2i hx hb dX2_find_8 ?_
  rw [show (nI ((hcN x) / 2 ^ 51)) = (nI (hX x)) from rfl]
  refine lv_istore (lv' := [(5, .int (nI (hX x))), (0, .ref xa), (1, .long (lN x)), (3, .int (nI par)), (4, .int q)]) hx hb dX2_find_9 hl (by decide) rfl (fun ls hl => ?_)
  refine lv_iconst (v := nI 0) hx hb dX2_find_11 (by decide) ?_
  refine lv_istore (lv' := [(6, .int (nI 0)), (5, .int (nI (hX x))), (0, .ref xa), (1, .long (lN x)), (3, .int (nI par)), (4, .int q)]) hx hb dX2_find_12 hl (by decide) rfl (fun ls hl => ?_)
  have loop14 : ∀ (N_ : Nat) (d : Nat) (hd : d ≤ 8192) (hp : ∀ e, e < d → t (slot (hX x) e) ≠ 0 ∧ bC B (t (slot (hX x) e) - 1) ≠ x) (hf : 8192 < d + N_), ∀ (H : Heap) (locs : List Loc), va_P D vwCl [(xa, .inr (0, [.ref fo, .ref pa, .ref mo, .ref ta, .ref ou, .int (nI B.length), .int (nI pr)])), (fo, .inl (ca 1, 4000, .inr (.inl f))), (pa, .inl (ca 0, 4000, .inl p)), (mo, .inl (ca 0, 4000, .inl m)), (ta, .inl (ca 0, 8192, .inl (rwN t)))] H → va_D A [(xa, .inr (0, [.ref fo, .ref pa, .ref mo, .ref ta, .ref ou, .int (nI B.length), .int (nI pr)])), (fo, .inl (ca 1, 4000, .inr (.inl f))), (pa, .inl (ca 0, 4000, .inl p)), (mo, .inl (ca 0, 4000, .inl m)), (ta, .inl (ca 0, 8192, .inl (rwN t)))] → va_S A s_.heap H locs → ∀ (ls : Array Slot), lv_has ls 9 [(6, .int (nI d)), (5, .int (nI (hX x))), (0, .ref xa), (1, .long (lN x)), (3, .int (nI par)), (4, .int q)] → W p_ l e_ ({ frames := 1, cells := 0, slots := 0, locals := 24 }) s_ m_ ([.ref xa, .long (lN x), .int (nI par), .int q]).toArray below_ meth_ c_ H locs 0 0 (MQ below_ (uQA D ca A (fOm ca xa fo pa mo ta ou pr (pushB B x par mv) [])) ([.ref xa, .long (lN x), .int (nI par), .int q]).toArray s_ 0 0 A) (F0 m_ 14 ls []) := by
    intro N_
    induction N_ with
    | zero => intro d hd hp hf; exfalso; omega
    | succ N_ ih14 =>
      intro d hd hp hf H locs hP hD hS ls hl
      refine lv_iload hx hb dX2_find_14 (lv_at hl 0 rfl) ?_
      refine lv_sipush (v := nI 8192) hx hb dX2_find_16 (by decide) ?_
      refine n_ic_ge (tgt := 90) hx hb dX2_find_19 (by decide) (by omega) (by decide) (fun c19 => ?_) (fun c19 => ?_)
      · exact (ht_full hH (by omega) (hX_lt x) (fun e he => (hp e (by omega)).1)).elim
      · refine lv_iload hx hb dX2_find_22 (lv_at hl 1 rfl) ?_
        refine lv_iload hx hb dX2_find_24 (lv_at hl 0 rfl) ?_
        refine n_iadd hx hb dX2_find_26 ?_
        refine lv_sipush (v := nI 8191) hx hb dX2_find_27 (by decide) ?_
        refine n_iand hx hb 13 (by decide) dX2_find_30 ?_
        rw [show (nI (((hX x) + d) % 2 ^ 13)) = (nI (slot (hX x) d)) from rfl]
        refine lv_istore (lv' := [(7, .int (nI (slot (hX x) d))), (6, .int (nI d)), (5, .int (nI (hX x))), (0, .ref xa), (1, .long (lN x)), (3, .int (nI par)), (4, .int q)]) hx hb dX2_find_31 hl (by decide) rfl (fun ls hl => ?_)
        refine lv_aload_n hx hb dX2_find_33 rfl (lv_at hl 3 rfl) ?_
        refine va_get (D := D) (ci := 0) (v := .ref ta) (C := RX2) (T := TX2) (N := 7) hx hb hts hinX20 hown hK.1 hP 0 rfl rfl 3 (by decide) (hts (.fieldLink RX2 22 "RenamingGrid$Exploration" "table" "[I") (List.mem_of_getElem? (i := 2) rfl)) (fun _ h9 => h9) rfl dX2_find_34 ?_
        refine lv_iload hx hb dX2_find_37 (lv_at hl 0 rfl) ?_
        refine n_iald (D := D) (ca := ca) (v := (nI (t (slot (hX x) d)))) hx hb hK.1 hP 4 (f := (rwN t)) rfl (slot_lt _ _) (by decide) rfl dX2_find_39 ?_
        refine lv_iconst (v := nI 1) hx hb dX2_find_40 (by decide) ?_
        refine lv_isub hx hb dX2_find_41 ?_
        rw [show (((nI (t (slot (hX x) d))) - (nI 1))) = ((zI (t (slot (hX x) d)))) from sub1]
        refine lv_istore (lv' := [(8, .int ((zI (t (slot (hX x) d))))), (7, .int (nI (slot (hX x) d))), (6, .int (nI d)), (5, .int (nI (hX x))), (0, .ref xa), (1, .long (lN x)), (3, .int (nI par)), (4, .int q)]) hx hb dX2_find_42 hl (by decide) rfl (fun ls hl => ?_)
        refine lv_iload hx hb dX2_find_44 (lv_at hl 0 rfl) ?_
        refine lv_if_ge (tgt := 71) hx hb dX2_find_46 (by decide) (fun c46 => ?_) (fun c46 => ?_)
        · rw [zI_ge (by have := hH.1 (slot (hX x) d) (slot_lt _ _); omega)] at c46
          have hz : zI (t (slot (hX x) d)) = nI (t (slot (hX x) d) - 1) := zI_p (by omega)
          rw [hz] at hl
          have hts2 : t (slot (hX x) d) ≤ B.length := hH.1 (slot (hX x) d) (slot_lt _ _)
          refine lv_aload_n hx hb dX2_find_71 rfl (lv_at hl 4 rfl) ?_
          refine lv_iload hx hb dX2_find_72 (lv_at hl 0 rfl) ?_
          refine rdV (nL := 9) (ci := 0) (q0 := 0) (cq := (RX2, TX2, 7)) hx hb hml hown hts hK hP [.int (nI (t (slot (hX x) d) - 1))] [] (c_X2_foundAt l D ca xa fo pa mo ta ou B.length pr f (t (slot (hX x) d) - 1) (by omega)) gX2_find_X2_foundAt rfl ⟨rfl, qX2_foundAt⟩ ⟨Nat.le_of_ble_eq_true rfl, Nat.le_of_ble_eq_true rfl⟩ rfl rfl [0, 1] rfl rfl hl.1 (Nat.le_of_ble_eq_true rfl) ⟨Nat.le_of_ble_eq_true rfl, Nat.le_of_ble_eq_true rfl⟩ dX2_find_74 ?_
          rw [show ((f (t (slot (hX x) d) - 1))) = (lN (bC B (t (slot (hX x) d) - 1))) from (hR (t (slot (hX x) d) - 1) (by omega)).1]
          refine lv_lload_n hx hb dX2_find_77 rfl (lv_at hl 5 rfl) ?_
          refine W.lcmp hx hb dX2_find_78 ?_
          refine lv_if_ne (tgt := 84) hx hb dX2_find_79 (by decide) (fun c79 => ?_) (fun c79 => ?_)
          · rw [lcmp0 (hV (t (slot (hX x) d) - 1) (by omega)) hx0] at c79
            refine lv_iinc (v := (nI (d + 1))) (lv' := [(6, .int (nI (d + 1))), (8, .int (nI (t (slot (hX x) d) - 1))), (7, .int (nI (slot (hX x) d))), (5, .int (nI (hX x))), (0, .ref xa), (1, .long (lN x)), (3, .int (nI par)), (4, .int q)]) hx hb dX2_find_84 hl (k := 2) rfl (show nI d + Int32.ofInt 1 = nI (d + 1) from nI_add _ 1) (by decide) rfl (fun ls hl => ?_)
            refine lv_goto (tgt := 14) hx hb dX2_find_87 (by decide) ?_
            exact ih14 (d + 1) (by omega) (fun e he => by by_cases z : e = d; (subst z; exact ⟨c46, c79⟩); exact hp e (by omega)) (by omega) H locs hP hD hS ls (lv_sub hl [0, 3, 4, 5, 6, 7] rfl)
          · rw [lcmp0 (hV (t (slot (hX x) d) - 1) (by omega)) hx0] at c79
            refine lv_iconst (v := nI 1) hx hb dX2_find_82 (by decide) ?_
            have hpush : pushB B x par mv = B := push_t ⟨t (slot (hX x) d) - 1, by have := hH.1 (slot (hX x) d) (slot_lt _ _); omega, c79⟩
            exact uRetZ hx hb hr hlocks hK hP hD hS rfl ⟨f, p, m, t, B.length, rfl, Or.inl ⟨rfl, by rw [hpush]; exact ⟨hR, hH, rfl, hB⟩⟩⟩ (Nat.le_of_ble_eq_true rfl) (Nat.le_of_ble_eq_true rfl) dX2_find_83
        · rw [zI_ge (by have := hH.1 (slot (hX x) d) (slot_lt _ _); omega), Decidable.not_not] at c46
          refine lv_aload_n hx hb dX2_find_49 rfl (lv_at hl 4 rfl) ?_
          refine va_get (D := D) (ci := 0) (v := .ref ta) (C := RX2) (T := TX2) (N := 7) hx hb hts hinX20 hown hK.1 hP 0 rfl rfl 3 (by decide) (hts (.fieldLink RX2 22 "RenamingGrid$Exploration" "table" "[I") (List.mem_of_getElem? (i := 2) rfl)) (fun _ h9 => h9) rfl dX2_find_50 ?_
          refine lv_iload hx hb dX2_find_53 (lv_at hl 1 rfl) ?_
          refine lv_aload_n hx hb dX2_find_55 rfl (lv_at hl 4 rfl) ?_
          refine va_get (D := D) (ci := 0) (v := .int (nI B.length)) (C := RX2) (T := TX2) (N := 7) hx hb hts hinX20 hown hK.1 hP 0 rfl rfl 5 (by decide) (hts (.fieldLink RX2 34 "RenamingGrid$Exploration" "count" "I") (List.mem_of_getElem? (i := 3) rfl)) (fun _ h9 => h9) rfl dX2_find_56 ?_
          refine lv_iconst (v := nI 1) hx hb dX2_find_59 (by decide) ?_
          refine n_iadd hx hb dX2_find_60 ?_
          refine n_iast (D := D) (ca := ca) hx hb hK.1 hP hD hS 4 (f := (rwN t)) rfl (slot_lt _ _) (by decide) dX2_find_61 (fun H locs hP hD hS => ?_)
          have hP : va_P D vwCl [(xa, .inr (0, [.ref fo, .ref pa, .ref mo, .ref ta, .ref ou, .int (nI B.length), .int (nI pr)])), (fo, .inl (ca 1, 4000, .inr (.inl f))), (pa, .inl (ca 0, 4000, .inl p)), (mo, .inl (ca 0, 4000, .inl m)), (ta, .inl (ca 0, 8192, .inl (upd (rwN t) (slot (hX x) d) (nI (B.length + 1)))))] H := hP
          have hD : va_D A [(xa, .inr (0, [.ref fo, .ref pa, .ref mo, .ref ta, .ref ou, .int (nI B.length), .int (nI pr)])), (fo, .inl (ca 1, 4000, .inr (.inl f))), (pa, .inl (ca 0, 4000, .inl p)), (mo, .inl (ca 0, 4000, .inl m)), (ta, .inl (ca 0, 8192, .inl (upd (rwN t) (slot (hX x) d) (nI (B.length + 1)))))] := hD
          rw [rwN_up] at hP hD
          rcases Nat.lt_or_ge B.length 4000 with hlt | hge
          · refine lv_aload_n hx hb dX2_find_62 rfl (lv_at hl 4 rfl) ?_
            refine lv_lload_n hx hb dX2_find_63 rfl (lv_at hl 5 rfl) ?_
            refine lv_iload_n hx hb dX2_find_64 rfl (lv_at hl 6 rfl) ?_
            refine lv_iload hx hb dX2_find_65 (lv_at hl 7 rfl) ?_
            refine uV (nL := 9) (wr := [(ta, .inl (ca 0, 8192, .inl (rwN (va_up t (slot (hX x) d) (B.length + 1)))))]) (ci := 0) (q0 := 0) (cq := (RX2, TX2, 7)) hx hb hml hown hts hK hA hP hD hS [.long (lN x), .int (nI par), .int q] [] (c_X2_keep_y l D ca xa fo pa mo ta ou B.length pr f p m x par q hlt) gX2_find_X2_keep rfl ⟨rfl, qX2_keep⟩ ⟨Nat.le_of_ble_eq_true rfl, Nat.le_of_ble_eq_true rfl⟩ rfl rfl [0, 1, 2, 3] [4] rfl rfl (by decide) (by decide) rfl hl.1 (Nat.le_of_ble_eq_true rfl) ⟨Nat.le_of_ble_eq_true rfl, Nat.le_of_ble_eq_true rfl⟩ dX2_find_67 (oneK (wsN := [(xa, .inr (0, [.ref fo, .ref pa, .ref mo, .ref ta, .ref ou, .int (nI (B.length + 1)), .int (nI pr)])), (fo, .inl (ca 1, 4000, .inr (.inl (vp_updL f B.length (lN x))))), (pa, .inl (ca 0, 4000, .inl (upd p B.length (nI par)))), (mo, .inl (ca 0, 4000, .inl (upd m B.length q))), (ta, .inl (ca 0, 8192, .inl (rwN (va_up t (slot (hX x) d) (B.length + 1)))))]) [1, 2, 3, 4, 0] (by decide) rfl (st1 := [.int (nI 1)]) rfl 0 0 rfl rfl (fun H locs hP hD hS => ?_))
            have hno := ht_no hH hp c46
            have hpush : pushB B x par mv = B ++ [(x, par, mv)] := push_f hno (by omega)
            have hlen : (B ++ [(x, par, mv)]).length = B.length + 1 := by simp
            exact uRetZ hx hb hr hlocks hK hP hD hS rfl ⟨_, _, _, va_up t (slot (hX x) d) (B.length + 1), B.length + 1, rfl, Or.inl ⟨rfl, by rw [hpush]; exact ⟨RB_app hR hq, by rw [hlen]; exact ht_ins hH (by omega) (fun e he => (hp e he).1) c46 (fun j hj => bC_app hj) (by unfold bC; rw [app_last]), hlen.symm, by rw [hlen]; omega⟩⟩⟩ (Nat.le_of_ble_eq_true rfl) (Nat.le_of_ble_eq_true rfl) dX2_find_70
          · refine lv_aload_n hx hb dX2_find_62 rfl (lv_at hl 4 rfl) ?_
            refine lv_lload_n hx hb dX2_find_63 rfl (lv_at hl 5 rfl) ?_
            refine lv_iload_n hx hb dX2_find_64 rfl (lv_at hl 6 rfl) ?_
            refine lv_iload hx hb dX2_find_65 (lv_at hl 7 rfl) ?_
            refine uV (nL := 9) (wr := [(ta, .inl (ca 0, 8192, .inl (rwN (va_up t (slot (hX x) d) (B.length + 1)))))]) (ci := 0) (q0 := 0) (cq := (RX2, TX2, 7)) hx hb hml hown hts hK hA hP hD hS [.long (lN x), .int (nI par), .int q] [] (c_X2_keep_n l D ca xa fo pa mo ta ou B.length pr f p m x par q (by omega)) gX2_find_X2_keep rfl ⟨rfl, qX2_keep⟩ ⟨Nat.le_of_ble_eq_true rfl, Nat.le_of_ble_eq_true rfl⟩ rfl rfl [0, 1, 2, 3] [4] rfl rfl (by decide) (by decide) rfl hl.1 (Nat.le_of_ble_eq_true rfl) ⟨Nat.le_of_ble_eq_true rfl, Nat.le_of_ble_eq_true rfl⟩ dX2_find_67 (oneK (wsN := [(xa, .inr (0, [.ref fo, .ref pa, .ref mo, .ref ta, .ref ou, .int (nI B.length), .int (nI pr)])), (fo, .inl (ca 1, 4000, .inr (.inl f))), (pa, .inl (ca 0, 4000, .inl p)), (mo, .inl (ca 0, 4000, .inl m)), (ta, .inl (ca 0, 8192, .inl (rwN (va_up t (slot (hX x) d) (B.length + 1)))))]) [1, 2, 3, 4, 0] (by decide) rfl (st1 := [.int (nI 0)]) rfl 0 0 rfl rfl (fun H locs hP hD hS => ?_))
            have hno := ht_no hH hp c46
            have hpush : pushB B x par mv = B ++ [(x, par, mv)] := push_f hno (by omega)
            have hlen : (B ++ [(x, par, mv)]).length = B.length + 1 := by simp
            exact uRetZ hx hb hr hlocks hK hP hD hS rfl ⟨f, p, m, va_up t (slot (hX x) d) (B.length + 1), B.length, rfl, Or.inr ⟨rfl, by rw [hpush, hlen]; omega⟩⟩ (Nat.le_of_ble_eq_true rfl) (Nat.le_of_ble_eq_true rfl) dX2_find_70
  exact loop14 8193 0 (by omega) (fun e he => absurd he (Nat.not_lt_zero e)) (by omega) _ _ hP hD hS ls (lv_sub hl [0, 1, 2, 3, 4, 5] rfl)

