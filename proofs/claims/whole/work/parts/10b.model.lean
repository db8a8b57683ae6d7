set_option maxHeartbeats 4000000 in
set_option maxRecDepth 100000 in
theorem c_X6_take (l : Launch) (D : va_G) (ca : Nat → ClassId) (m : Nat) (r : Nat → Nat) (g : Nat → Int32) (s S : Nat → Nat) (hs : MR s S) : UP l D ca yX6_take wsX6_take 0 0 0 0 [(m, .inr (4, mF r g)), (r 1, .inl (ca 0, 38, .inl (rwN s)))] [.ref m] (one none [(m, .inr (4, mF r (upd (upd g 8 (nI (regs (S 3)))) 9 (nI (qn (S 3)))))), (r 1, .inl (ca 0, 38, .inl (rwN s)))]) := by
  refine UP.start (cc := cX6_take) (maxL := 1) (ret := none) (by decide) rfl (Nat.le_of_ble_eq_true rfl) ?_
  intro p_ e_ s_ m_ below_ meth_ c_ A hx hb hml hr hlocks hin hown hts hK hA hP hD hS ls hl
  have hown : s_.vm.findClass RX6 = some m_.cls := hown
  have hl : lv_has ls 1 [(0, .ref m)] := hl
  have hinX60 : ∀ w ∈ wsX60, w ∈ wsX6_take := fun w h => List.mem_cons_of_mem _ (List.mem_append_right _ h)
  refine lv_aload_n hx hb dX6_take_0 rfl (lv_at hl 0 rfl) ?_
  refine lv_aload_n hx hb dX6_take_1 rfl (lv_at hl 0 rfl) ?_
  refine va_get (D := D) (ci := 4) (v := .ref (r 1)) (C := RX6) (T := TX6) (N := 34) hx hb hts hinX60 hown hK.1 hP 0 rfl rfl 1 (by decide) (hts (.fieldLink RX6 7 "RenamingGridModel" "s" "[I") (List.mem_of_getElem? (i := 1) rfl)) (fun _ h9 => h9) rfl dX6_take_2 ?_
  refine lv_iconst (v := nI 3) hx hb dX6_take_5 (by decide) ?_
  refine n_iald (D := D) (ca := ca) (v := (nI (regs (S 3)))) hx hb hK.1 hP 1 (f := (rwN s)) rfl (by omega) (by decide) (congrArg nI (hs 3 (by decide))) dX6_take_6 ?_
  refine va_put (D := D) (ci := 4) (v := .int (nI (regs (S 3)))) (ty := tyX6 8) (C := RX6) (T := TX6) (N := 34) hx hb hts hinX60 tyX6 tyX6_ok nmX6 hown hK.1 hP hD hS 0 rfl rfl 8 (by decide) (hts (.fieldLink RX6 64 "RenamingGridModel" "registers" "I") (List.mem_of_getElem? (i := 2) rfl)) (fun _ h9 => h9) rfl (tyX6_ok 8 (by decide)) rfl rfl (Nat.le_of_ble_eq_true rfl) dX6_take_7 (fun H locs hP hD hS => ?_)
  have hP : va_P D vwCl [(m, .inr (4, mF r (upd g 8 (nI (regs (S 3)))))), (r 1, .inl (ca 0, 38, .inl (rwN s)))] H := hP
  have hD : va_D A [(m, .inr (4, mF r (upd g 8 (nI (regs (S 3)))))), (r 1, .inl (ca 0, 38, .inl (rwN s)))] := hD
  refine lv_aload_n hx hb dX6_take_10 rfl (lv_at hl 0 rfl) ?_
  refine lv_aload_n hx hb dX6_take_11 rfl (lv_at hl 0 rfl) ?_
  refine va_get (D := D) (ci := 4) (v := .ref (r 1)) (C := RX6) (T := TX6) (N := 34) hx hb hts hinX60 hown hK.1 hP 0 rfl rfl 1 (by decide) (hts (.fieldLink RX6 7 "RenamingGridModel" "s" "[I") (List.mem_of_getElem? (i := 1) rfl)) (fun _ h9 => h9) rfl dX6_take_12 ?_
  refine lv_iconst (v := nI 4) hx hb dX6_take_15 (by decide) ?_
  refine n_iald (D := D) (ca := ca) (v := (nI (qn (S 3)))) hx hb hK.1 hP 1 (f := (rwN s)) rfl (by omega) (by decide) (congrArg nI (hs 4 (by decide))) dX6_take_16 ?_
  refine va_put (D := D) (ci := 4) (v := .int (nI (qn (S 3)))) (ty := tyX6 9) (C := RX6) (T := TX6) (N := 34) hx hb hts hinX60 tyX6 tyX6_ok nmX6 hown hK.1 hP hD hS 0 rfl rfl 9 (by decide) (hts (.fieldLink RX6 61 "RenamingGridModel" "processes" "I") (List.mem_of_getElem? (i := 3) rfl)) (fun _ h9 => h9) rfl (tyX6_ok 9 (by decide)) rfl rfl (Nat.le_of_ble_eq_true rfl) dX6_take_17 (fun H locs hP hD hS => ?_)
  have hP : va_P D vwCl [(m, .inr (4, mF r (upd (upd g 8 (nI (regs (S 3)))) 9 (nI (qn (S 3)))))), (r 1, .inl (ca 0, 38, .inl (rwN s)))] H := hP
  have hD : va_D A [(m, .inr (4, mF r (upd (upd g 8 (nI (regs (S 3)))) 9 (nI (qn (S 3)))))), (r 1, .inl (ca 0, 38, .inl (rwN s)))] := hD
  exact uRetV hx hb hr hlocks hK hP hD hS ⟨rfl, rfl⟩ (Nat.le_of_ble_eq_true rfl) (Nat.le_of_ble_eq_true rfl) dX6_take_20

theorem bN_b1 (b : Bool) : bN b < 2 := by cases b <;> decide
theorem nmS_pos {S : Nat → Nat} (h : SOK S) : 1 ≤ nmS S := by
  have h0 := h.1
  unfold nmS
  rcases (show S 0 = 2 ∨ S 0 = 3 ∨ S 0 = 4 by omega) with e | e | e <;> rw [e] <;> decide

theorem isub1 {n : Nat} (h : 0 < n) : nI n - nI 1 = nI (n - 1) := pk_sub (by omega)
def kp1 (h : Nat → Nat) (k : Nat) : Nat → Nat := fun j => if j < k then h (38 + j) else h j
theorem kp1_0 (h : Nat → Nat) : kp1 h 0 = h := by funext j; unfold kp1; rw [if_neg (by omega)]
theorem kp1_s (h : Nat → Nat) (k : Nat) : va_up (kp1 h k) k (kp1 h k (38 + k)) = kp1 h (k + 1) := by
  funext j
  by_cases e : j = k
  · rw [vu_e e]; unfold kp1; rw [if_neg (by omega), if_pos (by omega), e]
  · rw [vu_n e]
    unfold kp1
    by_cases e2 : j < k
    · rw [if_pos e2, if_pos (by omega)]
    · rw [if_neg e2, if_neg (by omega)]
/-- k places of a row written from place o on -/
def kp2 (s : Nat → Nat) (h : Nat → Nat) (o k : Nat) : Nat → Nat := fun j => if o ≤ j ∧ j < o + k then s (j - o) else h j
theorem kp2_0 (s : Nat → Nat) (h : Nat → Nat) (o : Nat) : kp2 s h o 0 = h := by funext j; unfold kp2; rw [if_neg (by omega)]
theorem kp2_s (s : Nat → Nat) (h : Nat → Nat) (o k : Nat) : va_up (kp2 s h o k) (o + k) (s k) = kp2 s h o (k + 1) := by
  funext j
  by_cases e : j = o + k
  · rw [vu_e e]; unfold kp2; rw [if_pos (by omega), show j - o = k by omega]
  · rw [vu_n e]
    unfold kp2
    by_cases e2 : o ≤ j ∧ j < o + k
    · rw [if_pos e2, if_pos (by omega)]
    · rw [if_neg e2, if_neg (by omega)]
/-- k places read from place o on -/
def ldR (z : Nat → Nat) (o : Nat) (s : Nat → Nat) (k : Nat) : Nat → Nat := fun j => if j < k then z (o + j) else s j
theorem ldR_0 (z : Nat → Nat) (o : Nat) (s : Nat → Nat) : ldR z o s 0 = s := by funext j; unfold ldR; rw [if_neg (by omega)]
theorem ldR_s (z : Nat → Nat) (o : Nat) (s : Nat → Nat) (k : Nat) : va_up (ldR z o s k) k (z (o + k)) = ldR z o s (k + 1) := by
  funext j
  by_cases e : j = k
  · rw [vu_e e]; unfold ldR; rw [if_pos (by omega), e]
  · rw [vu_n e]
    unfold ldR
    by_cases e2 : j < k
    · rw [if_pos e2, if_pos (by omega)]
    · rw [if_neg e2, if_neg (by omega)]
/-- the history behind 'keep' -/
def kpH (n : Nat) (s : Nat → Nat) (h : Nat → Nat) : Nat → Nat := if n = 8 then kp2 s (kp1 h 266) (38 * 7) 38 else kp2 s h (38 * n) 38
def kpN (n : Nat) : Nat := if n = 8 then 8 else n + 1

set_option maxHeartbeats 4000000 in
set_option maxRecDepth 100000 in
theorem c_X6_keep_f (l : Launch) (D : va_G) (ca : Nat → ClassId) (m : Nat) (r : Nat → Nat) (g : Nat → Int32) (s : Nat → Nat) (h : Nat → Nat) (n : Nat) (hn : n < 8) (hg3 : g 3 = nI n) : UP l D ca yX6_keep wsX6_keep 0 0 0 0 [(m, .inr (4, mF r g)), (r 1, .inl (ca 0, 38, .inl (rwN s))), (r 2, .inl (ca 0, 304, .inl (rwN h)))] [.ref m] (one none [(m, .inr (4, mF r (upd (upd g 3 (nI (n + 1))) 24 (nI 0)))), (r 1, .inl (ca 0, 38, .inl (rwN s))), (r 2, .inl (ca 0, 304, .inl (rwN ((kp2 s h (38 * n) 38)))))]) := by
  refine UP.start (cc := cX6_keep) (maxL := 2) (ret := none) (by decide) rfl (Nat.le_of_ble_eq_true rfl) ?_
  intro p_ e_ s_ m_ below_ meth_ c_ A hx hb hml hr hlocks hin hown hts hK hA hP hD hS ls hl
  have hown : s_.vm.findClass RX6 = some m_.cls := hown
  have hl : lv_has ls 2 [(0, .ref m)] := hl
  have hinX60 : ∀ w ∈ wsX60, w ∈ wsX6_keep := fun w h => List.mem_cons_of_mem _ (List.mem_append_right _ h)
  refine lv_aload_n hx hb dX6_keep_0 rfl (lv_at hl 0 rfl) ?_
  refine va_get (D := D) (ci := 4) (v := .int (nI n)) (C := RX6) (T := TX6) (N := 34) hx hb hts hinX60 hown hK.1 hP 0 rfl rfl 3 (by decide) (hts (.fieldLink RX6 108 "RenamingGridModel" "depth" "I") (List.mem_of_getElem? (i := 1) rfl)) (fun _ h9 => h9) (congrArg (fun z => some (Value.int z)) hg3) dX6_keep_1 ?_
  refine lv_bipush (v := nI 8) hx hb dX6_keep_4 (by decide) ?_
  refine n_ic_ne (tgt := 49) hx hb dX6_keep_6 (by decide) (by omega) (by decide) (fun c6 => ?_) (fun c6 => absurd c6 (by omega))
  refine lv_iconst (v := nI 0) hx hb dX6_keep_49 (by decide) ?_
  refine lv_istore_n (lv' := [(1, .int (nI 0)), (0, .ref m)]) hx hb dX6_keep_50 rfl hl (by decide) rfl (fun ls hl => ?_)
  rw [← kp2_0 s h (38 * n)] at hP hD
  have loop51 : ∀ (N_ : Nat) (k : Nat) (hk : k ≤ 38) (hf : 38 < k + N_), ∀ (H : Heap) (locs : List Loc), va_P D vwCl [(m, .inr (4, mF r g)), (r 1, .inl (ca 0, 38, .inl (rwN s))), (r 2, .inl (ca 0, 304, .inl (rwN (kp2 s h (38 * n) k))))] H → va_D A [(m, .inr (4, mF r g)), (r 1, .inl (ca 0, 38, .inl (rwN s))), (r 2, .inl (ca 0, 304, .inl (rwN (kp2 s h (38 * n) k))))] → va_S A s_.heap H locs → ∀ (ls : Array Slot), lv_has ls 2 [(1, .int (nI k)), (0, .ref m)] → W p_ l e_ ({ frames := 0, cells := 0, slots := 0, locals := 0 }) s_ m_ ([.ref m]).toArray below_ meth_ c_ H locs 0 0 (MQ below_ (uQA D ca A (one none [(m, .inr (4, mF r (upd (upd g 3 (nI (n + 1))) 24 (nI 0)))), (r 1, .inl (ca 0, 38, .inl (rwN s))), (r 2, .inl (ca 0, 304, .inl (rwN ((kp2 s h (38 * n) 38)))))])) ([.ref m]).toArray s_ 0 0 A) (F0 m_ 51 ls []) := by
    intro N_
    induction N_ with
    | zero => intro k hk hf; exfalso; omega
    | succ N_ ih51 =>
      intro k hk hf H locs hP hD hS ls hl
      refine lv_iload_n hx hb dX6_keep_51 rfl (lv_at hl 0 rfl) ?_
      refine lv_bipush (v := nI 38) hx hb dX6_keep_52 (by decide) ?_
      refine n_ic_ge (tgt := 83) hx hb dX6_keep_54 (by decide) (by omega) (by decide) (fun c54 => ?_) (fun c54 => ?_)
      · refine lv_aload_n hx hb dX6_keep_83 rfl (lv_at hl 1 rfl) ?_
        refine lv_dup hx hb dX6_keep_84 rfl ?_
        refine va_get (D := D) (ci := 4) (v := .int (nI n)) (C := RX6) (T := TX6) (N := 34) hx hb hts hinX60 hown hK.1 hP 0 rfl rfl 3 (by decide) (hts (.fieldLink RX6 108 "RenamingGridModel" "depth" "I") (List.mem_of_getElem? (i := 1) rfl)) (fun _ h9 => h9) (congrArg (fun z => some (Value.int z)) hg3) dX6_keep_85 ?_
        refine lv_iconst (v := nI 1) hx hb dX6_keep_88 (by decide) ?_
        refine n_iadd hx hb dX6_keep_89 ?_
        refine va_put (D := D) (ci := 4) (v := .int (nI (n + 1))) (ty := tyX6 3) (C := RX6) (T := TX6) (N := 34) hx hb hts hinX60 tyX6 tyX6_ok nmX6 hown hK.1 hP hD hS 0 rfl rfl 3 (by decide) (hts (.fieldLink RX6 108 "RenamingGridModel" "depth" "I") (List.mem_of_getElem? (i := 1) rfl)) (fun _ h9 => h9) rfl (tyX6_ok 3 (by decide)) rfl rfl (Nat.le_of_ble_eq_true rfl) dX6_keep_90 (fun H locs hP hD hS => ?_)
        have hP : va_P D vwCl [(m, .inr (4, mF r (upd g 3 (nI (n + 1))))), (r 1, .inl (ca 0, 38, .inl (rwN s))), (r 2, .inl (ca 0, 304, .inl (rwN (kp2 s h (38 * n) k))))] H := hP
        have hD : va_D A [(m, .inr (4, mF r (upd g 3 (nI (n + 1))))), (r 1, .inl (ca 0, 38, .inl (rwN s))), (r 2, .inl (ca 0, 304, .inl (rwN (kp2 s h (38 * n) k))))] := hD
        refine lv_aload_n hx hb dX6_keep_93 rfl (lv_at hl 1 rfl) ?_
        refine lv_iconst (v := nI 0) hx hb dX6_keep_94 (by decide) ?_
        refine va_put (D := D) (ci := 4) (v := .int (nI 0)) (ty := tyX6 24) (C := RX6) (T := TX6) (N := 34) hx hb hts hinX60 tyX6 tyX6_ok nmX6 hown hK.1 hP hD hS 0 rfl rfl 24 (by decide) (hts (.fieldLink RX6 111 "RenamingGridModel" "isExplored" "Z") (List.mem_of_getElem? (i := 4) rfl)) (fun _ h9 => h9) rfl (tyX6_ok 24 (by decide)) rfl rfl (Nat.le_of_ble_eq_true rfl) dX6_keep_95 (fun H locs hP hD hS => ?_)
        have hP : va_P D vwCl [(m, .inr (4, mF r (upd (upd g 3 (nI (n + 1))) 24 (nI 0)))), (r 1, .inl (ca 0, 38, .inl (rwN s))), (r 2, .inl (ca 0, 304, .inl (rwN (kp2 s h (38 * n) k))))] H := hP
        have hD : va_D A [(m, .inr (4, mF r (upd (upd g 3 (nI (n + 1))) 24 (nI 0)))), (r 1, .inl (ca 0, 38, .inl (rwN s))), (r 2, .inl (ca 0, 304, .inl (rwN (kp2 s h (38 * n) k))))] := hD
        have hk38 : k = 38 := by omega
        subst hk38
        exact uRetV hx hb hr hlocks hK hP hD hS ⟨rfl, rfl⟩ (Nat.le_of_ble_eq_true rfl) (Nat.le_of_ble_eq_true rfl) dX6_keep_98
      · refine lv_aload_n hx hb dX6_keep_57 rfl (lv_at hl 1 rfl) ?_
        refine va_get (D := D) (ci := 4) (v := .ref (r 2)) (C := RX6) (T := TX6) (N := 34) hx hb hts hinX60 hown hK.1 hP 0 rfl rfl 2 (by decide) (hts (.fieldLink RX6 13 "RenamingGridModel" "history" "[I") (List.mem_of_getElem? (i := 2) rfl)) (fun _ h9 => h9) rfl dX6_keep_58 ?_
        refine lv_bipush (v := nI 38) hx hb dX6_keep_61 (by decide) ?_
        refine lv_aload_n hx hb dX6_keep_63 rfl (lv_at hl 1 rfl) ?_
        refine va_get (D := D) (ci := 4) (v := .int (nI n)) (C := RX6) (T := TX6) (N := 34) hx hb hts hinX60 hown hK.1 hP 0 rfl rfl 3 (by decide) (hts (.fieldLink RX6 108 "RenamingGridModel" "depth" "I") (List.mem_of_getElem? (i := 1) rfl)) (fun _ h9 => h9) (congrArg (fun z => some (Value.int z)) hg3) dX6_keep_64 ?_
        refine n_imul hx hb dX6_keep_67 ?_
        refine lv_iload_n hx hb dX6_keep_68 rfl (lv_at hl 0 rfl) ?_
        refine n_iadd hx hb dX6_keep_69 ?_
        refine lv_aload_n hx hb dX6_keep_70 rfl (lv_at hl 1 rfl) ?_
        refine va_get (D := D) (ci := 4) (v := .ref (r 1)) (C := RX6) (T := TX6) (N := 34) hx hb hts hinX60 hown hK.1 hP 0 rfl rfl 1 (by decide) (hts (.fieldLink RX6 7 "RenamingGridModel" "s" "[I") (List.mem_of_getElem? (i := 3) rfl)) (fun _ h9 => h9) rfl dX6_keep_71 ?_
        refine lv_iload_n hx hb dX6_keep_74 rfl (lv_at hl 0 rfl) ?_
        refine n_iald (D := D) (ca := ca) (v := (nI (s k))) hx hb hK.1 hP 1 (f := (rwN s)) rfl (by omega) (by decide) rfl dX6_keep_75 ?_
        refine n_iast (D := D) (ca := ca) hx hb hK.1 hP hD hS 2 (f := (rwN (kp2 s h (38 * n) k))) rfl (by omega) (by decide) dX6_keep_76 (fun H locs hP hD hS => ?_)
        have hP : va_P D vwCl [(m, .inr (4, mF r g)), (r 1, .inl (ca 0, 38, .inl (rwN s))), (r 2, .inl (ca 0, 304, .inl (upd (rwN (kp2 s h (38 * n) k)) ((38 * n) + k) (nI (s k)))))] H := hP
        have hD : va_D A [(m, .inr (4, mF r g)), (r 1, .inl (ca 0, 38, .inl (rwN s))), (r 2, .inl (ca 0, 304, .inl (upd (rwN (kp2 s h (38 * n) k)) ((38 * n) + k) (nI (s k)))))] := hD
        rw [rwN_up] at hP hD
        rw [kp2_s s h (38 * n) k] at hP hD
        refine lv_iinc (v := (nI (k + 1))) (lv' := [(1, .int (nI (k + 1))), (0, .ref m)]) hx hb dX6_keep_77 hl (k := 0) rfl (show nI k + Int32.ofInt 1 = nI (k + 1) from nI_add _ 1) (by decide) rfl (fun ls hl => ?_)
        refine lv_goto (tgt := 51) hx hb dX6_keep_80 (by decide) ?_
        exact ih51 (k + 1) (by omega) (by omega) H locs hP hD hS ls (lv_sub hl [0, 1] rfl)
  exact loop51 39 0 (by omega) (by omega) _ _ hP hD hS ls (lv_sub hl [0, 1] rfl)

set_option maxHeartbeats 4000000 in
set_option maxRecDepth 100000 in
theorem c_X6_keep_8 (l : Launch) (D : va_G) (ca : Nat → ClassId) (m : Nat) (r : Nat → Nat) (g : Nat → Int32) (s : Nat → Nat) (h : Nat → Nat) (hg3 : g 3 = nI 8) : UP l D ca yX6_keep wsX6_keep 0 0 0 0 [(m, .inr (4, mF r g)), (r 1, .inl (ca 0, 38, .inl (rwN s))), (r 2, .inl (ca 0, 304, .inl (rwN h)))] [.ref m] (one none [(m, .inr (4, mF r (upd (upd g 3 (nI 8)) 24 (nI 0)))), (r 1, .inl (ca 0, 38, .inl (rwN s))), (r 2, .inl (ca 0, 304, .inl (rwN ((kp2 s (kp1 h 266) (38 * 7) 38)))))]) := by
  refine UP.start (cc := cX6_keep) (maxL := 2) (ret := none) (by decide) rfl (Nat.le_of_ble_eq_true rfl) ?_
  intro p_ e_ s_ m_ below_ meth_ c_ A hx hb hml hr hlocks hin hown hts hK hA hP hD hS ls hl
  have hown : s_.vm.findClass RX6 = some m_.cls := hown
  have hl : lv_has ls 2 [(0, .ref m)] := hl
  have hinX60 : ∀ w ∈ wsX60, w ∈ wsX6_keep := fun w h => List.mem_cons_of_mem _ (List.mem_append_right _ h)
  refine lv_aload_n hx hb dX6_keep_0 rfl (lv_at hl 0 rfl) ?_
  refine va_get (D := D) (ci := 4) (v := .int (nI 8)) (C := RX6) (T := TX6) (N := 34) hx hb hts hinX60 hown hK.1 hP 0 rfl rfl 3 (by decide) (hts (.fieldLink RX6 108 "RenamingGridModel" "depth" "I") (List.mem_of_getElem? (i := 1) rfl)) (fun _ h9 => h9) (congrArg (fun z => some (Value.int z)) hg3) dX6_keep_1 ?_
  refine lv_bipush (v := nI 8) hx hb dX6_keep_4 (by decide) ?_
  refine n_ic_ne (tgt := 49) hx hb dX6_keep_6 (by decide) (by decide) (by decide) (fun q => absurd q (by decide)) (fun _ => ?_)
  refine lv_iconst (v := nI 0) hx hb dX6_keep_9 (by decide) ?_
  rw [← kp1_0 h] at hP hD
  refine lv_istore_n (lv' := [(1, .int (nI 0)), (0, .ref m)]) hx hb dX6_keep_10 rfl hl (by decide) rfl (fun ls hl => ?_)
  have loop11 : ∀ (N_ : Nat) (k : Nat) (hk : k ≤ 266) (hf : 266 < k + N_), ∀ (H : Heap) (locs : List Loc), va_P D vwCl [(m, .inr (4, mF r g)), (r 1, .inl (ca 0, 38, .inl (rwN s))), (r 2, .inl (ca 0, 304, .inl (rwN (kp1 h k))))] H → va_D A [(m, .inr (4, mF r g)), (r 1, .inl (ca 0, 38, .inl (rwN s))), (r 2, .inl (ca 0, 304, .inl (rwN (kp1 h k))))] → va_S A s_.heap H locs → ∀ (ls : Array Slot), lv_has ls 2 [(1, .int (nI k)), (0, .ref m)] → W p_ l e_ ({ frames := 0, cells := 0, slots := 0, locals := 0 }) s_ m_ ([.ref m]).toArray below_ meth_ c_ H locs 0 0 (MQ below_ (uQA D ca A (one none [(m, .inr (4, mF r (upd (upd g 3 (nI 8)) 24 (nI 0)))), (r 1, .inl (ca 0, 38, .inl (rwN s))), (r 2, .inl (ca 0, 304, .inl (rwN ((kp2 s (kp1 h 266) (38 * 7) 38)))))])) ([.ref m]).toArray s_ 0 0 A) (F0 m_ 11 ls []) := by
    intro N_
    induction N_ with
    | zero => intro k hk hf; exfalso; omega
    | succ N_ ih11 =>
      intro k hk hf H locs hP hD hS ls hl
      refine lv_iload_n hx hb dX6_keep_11 rfl (lv_at hl 0 rfl) ?_
      refine lv_sipush (v := nI 266) hx hb dX6_keep_12 (by decide) ?_
      refine n_ic_ge (tgt := 39) hx hb dX6_keep_15 (by decide) (by omega) (by decide) (fun c15 => ?_) (fun c15 => ?_)
      · have hk266 : k = 266 := by omega
        subst hk266
        refine lv_aload_n hx hb dX6_keep_39 rfl (lv_at hl 1 rfl) ?_
        refine lv_dup hx hb dX6_keep_40 rfl ?_
        refine va_get (D := D) (ci := 4) (v := .int (nI 8)) (C := RX6) (T := TX6) (N := 34) hx hb hts hinX60 hown hK.1 hP 0 rfl rfl 3 (by decide) (hts (.fieldLink RX6 108 "RenamingGridModel" "depth" "I") (List.mem_of_getElem? (i := 1) rfl)) (fun _ h9 => h9) (congrArg (fun z => some (Value.int z)) hg3) dX6_keep_41 ?_
        refine lv_iconst (v := nI 1) hx hb dX6_keep_44 (by decide) ?_
        refine n_isub hx hb (by omega) dX6_keep_45 ?_
        refine va_put (D := D) (ci := 4) (v := .int (nI 7)) (ty := tyX6 3) (C := RX6) (T := TX6) (N := 34) hx hb hts hinX60 tyX6 tyX6_ok nmX6 hown hK.1 hP hD hS 0 rfl rfl 3 (by decide) (hts (.fieldLink RX6 108 "RenamingGridModel" "depth" "I") (List.mem_of_getElem? (i := 1) rfl)) (fun _ h9 => h9) rfl (tyX6_ok 3 (by decide)) rfl rfl (Nat.le_of_ble_eq_true rfl) dX6_keep_46 (fun H locs hP hD hS => ?_)
        have hP : va_P D vwCl [(m, .inr (4, mF r (upd g 3 (nI 7)))), (r 1, .inl (ca 0, 38, .inl (rwN s))), (r 2, .inl (ca 0, 304, .inl (rwN (kp1 h 266))))] H := hP
        have hD : va_D A [(m, .inr (4, mF r (upd g 3 (nI 7)))), (r 1, .inl (ca 0, 38, .inl (rwN s))), (r 2, .inl (ca 0, 304, .inl (rwN (kp1 h 266))))] := hD
        refine lv_iconst (v := nI 0) hx hb dX6_keep_49 (by decide) ?_
        refine lv_istore_n (lv' := [(1, .int (nI 0)), (0, .ref m)]) hx hb dX6_keep_50 rfl hl (by decide) rfl (fun ls hl => ?_)
        rw [← kp2_0 s ((kp1 h 266)) (38 * 7)] at hP hD
        have loop51 : ∀ (N_ : Nat) (k : Nat) (hk : k ≤ 38) (hf : 38 < k + N_), ∀ (H : Heap) (locs : List Loc), va_P D vwCl [(m, .inr (4, mF r (upd g 3 (nI 7)))), (r 1, .inl (ca 0, 38, .inl (rwN s))), (r 2, .inl (ca 0, 304, .inl (rwN (kp2 s ((kp1 h 266)) (38 * 7) k))))] H → va_D A [(m, .inr (4, mF r (upd g 3 (nI 7)))), (r 1, .inl (ca 0, 38, .inl (rwN s))), (r 2, .inl (ca 0, 304, .inl (rwN (kp2 s ((kp1 h 266)) (38 * 7) k))))] → va_S A s_.heap H locs → ∀ (ls : Array Slot), lv_has ls 2 [(1, .int (nI k)), (0, .ref m)] → W p_ l e_ ({ frames := 0, cells := 0, slots := 0, locals := 0 }) s_ m_ ([.ref m]).toArray below_ meth_ c_ H locs 0 0 (MQ below_ (uQA D ca A (one none [(m, .inr (4, mF r (upd (upd g 3 (nI 8)) 24 (nI 0)))), (r 1, .inl (ca 0, 38, .inl (rwN s))), (r 2, .inl (ca 0, 304, .inl (rwN ((kp2 s (kp1 h 266) (38 * 7) 38)))))])) ([.ref m]).toArray s_ 0 0 A) (F0 m_ 51 ls []) := by
          intro N_
          induction N_ with
          | zero => intro k hk hf; exfalso; omega
          | succ N_ ih51 =>
            intro k hk hf H locs hP hD hS ls hl
            refine lv_iload_n hx hb dX6_keep_51 rfl (lv_at hl 0 rfl) ?_
            refine lv_bipush (v := nI 38) hx hb dX6_keep_52 (by decide) ?_
            refine n_ic_ge (tgt := 83) hx hb dX6_keep_54 (by decide) (by omega) (by decide) (fun c54 => ?_) (fun c54 => ?_)
            · refine lv_aload_n hx hb dX6_keep_83 rfl (lv_at hl 1 rfl) ?_
              refine lv_dup hx hb dX6_keep_84 rfl ?_
              refine va_get (D := D) (ci := 4) (v := .int (nI 7)) (C := RX6) (T := TX6) (N := 34) hx hb hts hinX60 hown hK.1 hP 0 rfl rfl 3 (by decide) (hts (.fieldLink RX6 108 "RenamingGridModel" "depth" "I") (List.mem_of_getElem? (i := 1) rfl)) (fun _ h9 => h9) rfl dX6_keep_85 ?_
              refine lv_iconst (v := nI 1) hx hb dX6_keep_88 (by decide) ?_
              refine n_iadd hx hb dX6_keep_89 ?_
              refine va_put (D := D) (ci := 4) (v := .int (nI 8)) (ty := tyX6 3) (C := RX6) (T := TX6) (N := 34) hx hb hts hinX60 tyX6 tyX6_ok nmX6 hown hK.1 hP hD hS 0 rfl rfl 3 (by decide) (hts (.fieldLink RX6 108 "RenamingGridModel" "depth" "I") (List.mem_of_getElem? (i := 1) rfl)) (fun _ h9 => h9) rfl (tyX6_ok 3 (by decide)) rfl rfl (Nat.le_of_ble_eq_true rfl) dX6_keep_90 (fun H locs hP hD hS => ?_)
              have hP : va_P D vwCl [(m, .inr (4, mF r (upd g 3 (nI 8)))), (r 1, .inl (ca 0, 38, .inl (rwN s))), (r 2, .inl (ca 0, 304, .inl (rwN (kp2 s ((kp1 h 266)) (38 * 7) k))))] H := hP
              have hD : va_D A [(m, .inr (4, mF r (upd g 3 (nI 8)))), (r 1, .inl (ca 0, 38, .inl (rwN s))), (r 2, .inl (ca 0, 304, .inl (rwN (kp2 s ((kp1 h 266)) (38 * 7) k))))] := hD
              refine lv_aload_n hx hb dX6_keep_93 rfl (lv_at hl 1 rfl) ?_
              refine lv_iconst (v := nI 0) hx hb dX6_keep_94 (by decide) ?_
              refine va_put (D := D) (ci := 4) (v := .int (nI 0)) (ty := tyX6 24) (C := RX6) (T := TX6) (N := 34) hx hb hts hinX60 tyX6 tyX6_ok nmX6 hown hK.1 hP hD hS 0 rfl rfl 24 (by decide) (hts (.fieldLink RX6 111 "RenamingGridModel" "isExplored" "Z") (List.mem_of_getElem? (i := 4) rfl)) (fun _ h9 => h9) rfl (tyX6_ok 24 (by decide)) rfl rfl (Nat.le_of_ble_eq_true rfl) dX6_keep_95 (fun H locs hP hD hS => ?_)
              have hP : va_P D vwCl [(m, .inr (4, mF r (upd (upd g 3 (nI 8)) 24 (nI 0)))), (r 1, .inl (ca 0, 38, .inl (rwN s))), (r 2, .inl (ca 0, 304, .inl (rwN (kp2 s ((kp1 h 266)) (38 * 7) k))))] H := hP
              have hD : va_D A [(m, .inr (4, mF r (upd (upd g 3 (nI 8)) 24 (nI 0)))), (r 1, .inl (ca 0, 38, .inl (rwN s))), (r 2, .inl (ca 0, 304, .inl (rwN (kp2 s ((kp1 h 266)) (38 * 7) k))))] := hD
              have hk38 : k = 38 := by omega
              subst hk38
              exact uRetV hx hb hr hlocks hK hP hD hS ⟨rfl, rfl⟩ (Nat.le_of_ble_eq_true rfl) (Nat.le_of_ble_eq_true rfl) dX6_keep_98
            · refine lv_aload_n hx hb dX6_keep_57 rfl (lv_at hl 1 rfl) ?_
              refine va_get (D := D) (ci := 4) (v := .ref (r 2)) (C := RX6) (T := TX6) (N := 34) hx hb hts hinX60 hown hK.1 hP 0 rfl rfl 2 (by decide) (hts (.fieldLink RX6 13 "RenamingGridModel" "history" "[I") (List.mem_of_getElem? (i := 2) rfl)) (fun _ h9 => h9) rfl dX6_keep_58 ?_
              refine lv_bipush (v := nI 38) hx hb dX6_keep_61 (by decide) ?_
              refine lv_aload_n hx hb dX6_keep_63 rfl (lv_at hl 1 rfl) ?_
              refine va_get (D := D) (ci := 4) (v := .int (nI 7)) (C := RX6) (T := TX6) (N := 34) hx hb hts hinX60 hown hK.1 hP 0 rfl rfl 3 (by decide) (hts (.fieldLink RX6 108 "RenamingGridModel" "depth" "I") (List.mem_of_getElem? (i := 1) rfl)) (fun _ h9 => h9) rfl dX6_keep_64 ?_
              refine n_imul hx hb dX6_keep_67 ?_
              refine lv_iload_n hx hb dX6_keep_68 rfl (lv_at hl 0 rfl) ?_
              refine n_iadd hx hb dX6_keep_69 ?_
              refine lv_aload_n hx hb dX6_keep_70 rfl (lv_at hl 1 rfl) ?_
              refine va_get (D := D) (ci := 4) (v := .ref (r 1)) (C := RX6) (T := TX6) (N := 34) hx hb hts hinX60 hown hK.1 hP 0 rfl rfl 1 (by decide) (hts (.fieldLink RX6 7 "RenamingGridModel" "s" "[I") (List.mem_of_getElem? (i := 3) rfl)) (fun _ h9 => h9) rfl dX6_keep_71 ?_
              refine lv_iload_n hx hb dX6_keep_74 rfl (lv_at hl 0 rfl) ?_
              refine n_iald (D := D) (ca := ca) (v := (nI (s k))) hx hb hK.1 hP 1 (f := (rwN s)) rfl (by omega) (by decide) rfl dX6_keep_75 ?_
              refine n_iast (D := D) (ca := ca) hx hb hK.1 hP hD hS 2 (f := (rwN (kp2 s ((kp1 h 266)) (38 * 7) k))) rfl (by omega) (by decide) dX6_keep_76 (fun H locs hP hD hS => ?_)
              have hP : va_P D vwCl [(m, .inr (4, mF r (upd g 3 (nI 7)))), (r 1, .inl (ca 0, 38, .inl (rwN s))), (r 2, .inl (ca 0, 304, .inl (upd (rwN (kp2 s ((kp1 h 266)) (38 * 7) k)) (266 + k) (nI (s k)))))] H := hP
              have hD : va_D A [(m, .inr (4, mF r (upd g 3 (nI 7)))), (r 1, .inl (ca 0, 38, .inl (rwN s))), (r 2, .inl (ca 0, 304, .inl (upd (rwN (kp2 s ((kp1 h 266)) (38 * 7) k)) (266 + k) (nI (s k)))))] := hD
              rw [rwN_up] at hP hD
              rw [kp2_s s (kp1 h 266) (38 * 7) k] at hP hD
              refine lv_iinc (v := (nI (k + 1))) (lv' := [(1, .int (nI (k + 1))), (0, .ref m)]) hx hb dX6_keep_77 hl (k := 0) rfl (show nI k + Int32.ofInt 1 = nI (k + 1) from nI_add _ 1) (by decide) rfl (fun ls hl => ?_)
              refine lv_goto (tgt := 51) hx hb dX6_keep_80 (by decide) ?_
              exact ih51 (k + 1) (by omega) (by omega) H locs hP hD hS ls (lv_sub hl [0, 1] rfl)
        exact loop51 39 0 (by omega) (by omega) _ _ hP hD hS ls (lv_sub hl [0, 1] rfl)
      · refine lv_aload_n hx hb dX6_keep_18 rfl (lv_at hl 1 rfl) ?_
        refine va_get (D := D) (ci := 4) (v := .ref (r 2)) (C := RX6) (T := TX6) (N := 34) hx hb hts hinX60 hown hK.1 hP 0 rfl rfl 2 (by decide) (hts (.fieldLink RX6 13 "RenamingGridModel" "history" "[I") (List.mem_of_getElem? (i := 2) rfl)) (fun _ h9 => h9) rfl dX6_keep_19 ?_
        refine lv_iload_n hx hb dX6_keep_22 rfl (lv_at hl 0 rfl) ?_
        refine lv_aload_n hx hb dX6_keep_23 rfl (lv_at hl 1 rfl) ?_
        refine va_get (D := D) (ci := 4) (v := .ref (r 2)) (C := RX6) (T := TX6) (N := 34) hx hb hts hinX60 hown hK.1 hP 0 rfl rfl 2 (by decide) (hts (.fieldLink RX6 13 "RenamingGridModel" "history" "[I") (List.mem_of_getElem? (i := 2) rfl)) (fun _ h9 => h9) rfl dX6_keep_24 ?_
        refine lv_bipush (v := nI 38) hx hb dX6_keep_27 (by decide) ?_
        refine lv_iload_n hx hb dX6_keep_29 rfl (lv_at hl 0 rfl) ?_
        refine n_iadd hx hb dX6_keep_30 ?_
        refine n_iald (D := D) (ca := ca) (v := (nI (((kp1 h k)) (38 + k)))) hx hb hK.1 hP 2 (f := (rwN (kp1 h k))) rfl (by omega) (by decide) rfl dX6_keep_31 ?_
        refine n_iast (D := D) (ca := ca) hx hb hK.1 hP hD hS 2 (f := (rwN (kp1 h k))) rfl (by omega) (by decide) dX6_keep_32 (fun H locs hP hD hS => ?_)
        have hP : va_P D vwCl [(m, .inr (4, mF r g)), (r 1, .inl (ca 0, 38, .inl (rwN s))), (r 2, .inl (ca 0, 304, .inl (upd (rwN (kp1 h k)) k (nI (((kp1 h k)) (38 + k))))))] H := hP
        have hD : va_D A [(m, .inr (4, mF r g)), (r 1, .inl (ca 0, 38, .inl (rwN s))), (r 2, .inl (ca 0, 304, .inl (upd (rwN (kp1 h k)) k (nI (((kp1 h k)) (38 + k))))))] := hD
        rw [rwN_up] at hP hD
        rw [kp1_s h k] at hP hD
        refine lv_iinc (v := (nI (k + 1))) (lv' := [(1, .int (nI (k + 1))), (0, .ref m)]) hx hb dX6_keep_33 hl (k := 0) rfl (show nI k + Int32.ofInt 1 = nI (k + 1) from nI_add _ 1) (by decide) rfl (fun ls hl => ?_)
        refine lv_goto (tgt := 11) hx hb dX6_keep_36 (by decide) ?_
        exact ih11 (k + 1) (by omega) (by omega) H locs hP hD hS ls (lv_sub hl [0, 1] rfl)
  exact loop11 267 0 (by omega) (by omega) _ _ hP hD hS ls (lv_sub hl [0, 1] rfl)

theorem c_X6_keep (l : Launch) (D : va_G) (ca : Nat → ClassId) (m : Nat) (r : Nat → Nat) (g : Nat → Int32) (s : Nat → Nat) (h : Nat → Nat) (n : Nat) (hn : n ≤ 8) (hg3 : g 3 = nI n) : UP l D ca yX6_keep wsX6_keep 0 0 0 0 [(m, .inr (4, mF r g)), (r 1, .inl (ca 0, 38, .inl (rwN s))), (r 2, .inl (ca 0, 304, .inl (rwN h)))] [.ref m] (one none [(m, .inr (4, mF r (upd (upd g 3 (nI (kpN n))) 24 (nI 0)))), (r 1, .inl (ca 0, 38, .inl (rwN s))), (r 2, .inl (ca 0, 304, .inl (rwN ((kpH n s h)))))]) := by
  by_cases e : n = 8
  · subst e
    exact c_X6_keep_8 l D ca m r g s h hg3
  · have hN : kpN n = n + 1 := if_neg e
    have hH : kpH n s h = kp2 s h (38 * n) 38 := if_neg e
    rw [hN, hH]
    exact c_X6_keep_f l D ca m r g s h n (by omega) hg3

theorem bz_0 (s : Nat → Nat) : s = (fun j => if j < 0 then 0 else s j) := by funext j; rw [if_neg (by omega)]
theorem bz_s (s : Nat → Nat) (k : Nat) : va_up (fun j => if j < k then 0 else s j) k 0 = (fun j => if j < k + 1 then 0 else s j) := by
  funext j
  by_cases e : j = k
  · rw [vu_e e, if_pos (by omega)]
  · rw [vu_n e]
    by_cases e2 : j < k
    · rw [if_pos e2, if_pos (by omega)]
    · rw [if_neg e2, if_neg (by omega)]

set_option maxHeartbeats 4000000 in
set_option maxRecDepth 100000 in
theorem c_X6_begin (l : Launch) (D : va_G) (ca : Nat → ClassId) (m : Nat) (r : Nat → Nat) (g : Nat → Int32) (s : Nat → Nat) (z n q : Nat) : UP l D ca yX6_begin wsX6_begin 0 0 0 0 [(m, .inr (4, mF r g)), (r 1, .inl (ca 0, 38, .inl (rwN s)))] [.ref m, .int (nI z), .int (nI n), .int (nI q)] (one none [(m, .inr (4, mF r g)), (r 1, .inl (ca 0, 38, .inl (rwN ((begR s z n q)))))]) := by
  refine UP.start (cc := cX6_begin) (maxL := 5) (ret := none) (by decide) rfl (Nat.le_of_ble_eq_true rfl) ?_
  intro p_ e_ s_ m_ below_ meth_ c_ A hx hb hml hr hlocks hin hown hts hK hA hP hD hS ls hl
  have hown : s_.vm.findClass RX6 = some m_.cls := hown
  have hl : lv_has ls 5 [(0, .ref m), (1, .int (nI z)), (2, .int (nI n)), (3, .int (nI q))] := hl
  have hinX60 : ∀ w ∈ wsX60, w ∈ wsX6_begin := fun w h => List.mem_cons_of_mem _ (List.mem_append_right _ h)
  refine lv_iconst (v := nI 0) hx hb dX6_begin_0 (by decide) ?_
  rw [bz_0 s] at hP hD
  refine lv_istore (lv' := [(4, .int (nI 0)), (0, .ref m), (1, .int (nI z)), (2, .int (nI n)), (3, .int (nI q))]) hx hb dX6_begin_1 hl (by decide) rfl (fun ls hl => ?_)
  have loop3 : ∀ (N_ : Nat) (k : Nat) (hk : k ≤ 38) (hf : 38 < k + N_), ∀ (H : Heap) (locs : List Loc), va_P D vwCl [(m, .inr (4, mF r g)), (r 1, .inl (ca 0, 38, .inl (rwN (fun j => if j < k then 0 else s j))))] H → va_D A [(m, .inr (4, mF r g)), (r 1, .inl (ca 0, 38, .inl (rwN (fun j => if j < k then 0 else s j))))] → va_S A s_.heap H locs → ∀ (ls : Array Slot), lv_has ls 5 [(4, .int (nI k)), (0, .ref m), (1, .int (nI z)), (2, .int (nI n)), (3, .int (nI q))] → W p_ l e_ ({ frames := 0, cells := 0, slots := 0, locals := 0 }) s_ m_ ([.ref m, .int (nI z), .int (nI n), .int (nI q)]).toArray below_ meth_ c_ H locs 0 0 (MQ below_ (uQA D ca A (one none [(m, .inr (4, mF r g)), (r 1, .inl (ca 0, 38, .inl (rwN ((begR s z n q)))))])) ([.ref m, .int (nI z), .int (nI n), .int (nI q)]).toArray s_ 0 0 A) (F0 m_ 3 ls []) := by
    intro N_
    induction N_ with
    | zero => intro k hk hf; exfalso; omega
    | succ N_ ih3 =>
      intro k hk hf H locs hP hD hS ls hl
      refine lv_iload hx hb dX6_begin_3 (lv_at hl 0 rfl) ?_
      refine lv_bipush (v := nI 38) hx hb dX6_begin_5 (by decide) ?_
      refine n_ic_ge (tgt := 24) hx hb dX6_begin_7 (by decide) (by omega) (by decide) (fun c7 => ?_) (fun c7 => ?_)
      · have hk38 : k = 38 := by omega
        subst hk38
        refine lv_aload_n hx hb dX6_begin_24 rfl (lv_at hl 1 rfl) ?_
        refine va_get (D := D) (ci := 4) (v := .ref (r 1)) (C := RX6) (T := TX6) (N := 34) hx hb hts hinX60 hown hK.1 hP 0 rfl rfl 1 (by decide) (hts (.fieldLink RX6 7 "RenamingGridModel" "s" "[I") (List.mem_of_getElem? (i := 1) rfl)) (fun _ h9 => h9) rfl dX6_begin_25 ?_
        refine lv_iconst (v := nI 0) hx hb dX6_begin_28 (by decide) ?_
        refine lv_iload_n hx hb dX6_begin_29 rfl (lv_at hl 2 rfl) ?_
        refine n_iast (D := D) (ca := ca) hx hb hK.1 hP hD hS 1 (f := (rwN (fun j => if j < 38 then 0 else s j))) rfl (by omega) (by decide) dX6_begin_30 (fun H locs hP hD hS => ?_)
        have hP : va_P D vwCl [(m, .inr (4, mF r g)), (r 1, .inl (ca 0, 38, .inl (upd (rwN (fun j => if j < 38 then 0 else s j)) 0 (nI z))))] H := hP
        have hD : va_D A [(m, .inr (4, mF r g)), (r 1, .inl (ca 0, 38, .inl (upd (rwN (fun j => if j < 38 then 0 else s j)) 0 (nI z))))] := hD
        rw [rwN_up] at hP hD
        refine lv_aload_n hx hb dX6_begin_31 rfl (lv_at hl 1 rfl) ?_
        refine va_get (D := D) (ci := 4) (v := .ref (r 1)) (C := RX6) (T := TX6) (N := 34) hx hb hts hinX60 hown hK.1 hP 0 rfl rfl 1 (by decide) (hts (.fieldLink RX6 7 "RenamingGridModel" "s" "[I") (List.mem_of_getElem? (i := 1) rfl)) (fun _ h9 => h9) rfl dX6_begin_32 ?_
        refine lv_iconst (v := nI 1) hx hb dX6_begin_35 (by decide) ?_
        refine lv_iload_n hx hb dX6_begin_36 rfl (lv_at hl 3 rfl) ?_
        refine n_iast (D := D) (ca := ca) hx hb hK.1 hP hD hS 1 (f := (rwN (va_up ((fun j => if j < 38 then 0 else s j)) 0 z))) rfl (by omega) (by decide) dX6_begin_37 (fun H locs hP hD hS => ?_)
        have hP : va_P D vwCl [(m, .inr (4, mF r g)), (r 1, .inl (ca 0, 38, .inl (upd (rwN (va_up ((fun j => if j < 38 then 0 else s j)) 0 z)) 1 (nI n))))] H := hP
        have hD : va_D A [(m, .inr (4, mF r g)), (r 1, .inl (ca 0, 38, .inl (upd (rwN (va_up ((fun j => if j < 38 then 0 else s j)) 0 z)) 1 (nI n))))] := hD
        rw [rwN_up] at hP hD
        refine lv_aload_n hx hb dX6_begin_38 rfl (lv_at hl 1 rfl) ?_
        refine va_get (D := D) (ci := 4) (v := .ref (r 1)) (C := RX6) (T := TX6) (N := 34) hx hb hts hinX60 hown hK.1 hP 0 rfl rfl 1 (by decide) (hts (.fieldLink RX6 7 "RenamingGridModel" "s" "[I") (List.mem_of_getElem? (i := 1) rfl)) (fun _ h9 => h9) rfl dX6_begin_39 ?_
        refine lv_iconst (v := nI 2) hx hb dX6_begin_42 (by decide) ?_
        refine lv_iload_n hx hb dX6_begin_43 rfl (lv_at hl 4 rfl) ?_
        refine n_iast (D := D) (ca := ca) hx hb hK.1 hP hD hS 1 (f := (rwN (va_up ((va_up ((fun j => if j < 38 then 0 else s j)) 0 z)) 1 n))) rfl (by omega) (by decide) dX6_begin_44 (fun H locs hP hD hS => ?_)
        have hP : va_P D vwCl [(m, .inr (4, mF r g)), (r 1, .inl (ca 0, 38, .inl (upd (rwN (va_up ((va_up ((fun j => if j < 38 then 0 else s j)) 0 z)) 1 n)) 2 (nI q))))] H := hP
        have hD : va_D A [(m, .inr (4, mF r g)), (r 1, .inl (ca 0, 38, .inl (upd (rwN (va_up ((va_up ((fun j => if j < 38 then 0 else s j)) 0 z)) 1 n)) 2 (nI q))))] := hD
        rw [rwN_up] at hP hD
        refine lv_aload_n hx hb dX6_begin_45 rfl (lv_at hl 1 rfl) ?_
        refine va_get (D := D) (ci := 4) (v := .ref (r 1)) (C := RX6) (T := TX6) (N := 34) hx hb hts hinX60 hown hK.1 hP 0 rfl rfl 1 (by decide) (hts (.fieldLink RX6 7 "RenamingGridModel" "s" "[I") (List.mem_of_getElem? (i := 1) rfl)) (fun _ h9 => h9) rfl dX6_begin_46 ?_
        refine lv_bipush (v := nI 8) hx hb dX6_begin_49 (by decide) ?_
        refine lv_iload_n hx hb dX6_begin_51 rfl (lv_at hl 3 rfl) ?_
        refine n_iast (D := D) (ca := ca) hx hb hK.1 hP hD hS 1 (f := (rwN (va_up ((va_up ((va_up ((fun j => if j < 38 then 0 else s j)) 0 z)) 1 n)) 2 q))) rfl (by omega) (by decide) dX6_begin_52 (fun H locs hP hD hS => ?_)
        have hP : va_P D vwCl [(m, .inr (4, mF r g)), (r 1, .inl (ca 0, 38, .inl (upd (rwN (va_up ((va_up ((va_up ((fun j => if j < 38 then 0 else s j)) 0 z)) 1 n)) 2 q)) 8 (nI n))))] H := hP
        have hD : va_D A [(m, .inr (4, mF r g)), (r 1, .inl (ca 0, 38, .inl (upd (rwN (va_up ((va_up ((va_up ((fun j => if j < 38 then 0 else s j)) 0 z)) 1 n)) 2 q)) 8 (nI n))))] := hD
        rw [rwN_up] at hP hD
        exact uRetV hx hb hr hlocks hK hP hD hS ⟨rfl, rfl⟩ (Nat.le_of_ble_eq_true rfl) (Nat.le_of_ble_eq_true rfl) dX6_begin_53
      · refine lv_aload_n hx hb dX6_begin_10 rfl (lv_at hl 1 rfl) ?_
        refine va_get (D := D) (ci := 4) (v := .ref (r 1)) (C := RX6) (T := TX6) (N := 34) hx hb hts hinX60 hown hK.1 hP 0 rfl rfl 1 (by decide) (hts (.fieldLink RX6 7 "RenamingGridModel" "s" "[I") (List.mem_of_getElem? (i := 1) rfl)) (fun _ h9 => h9) rfl dX6_begin_11 ?_
        refine lv_iload hx hb dX6_begin_14 (lv_at hl 0 rfl) ?_
        refine lv_iconst (v := nI 0) hx hb dX6_begin_16 (by decide) ?_
        refine n_iast (D := D) (ca := ca) hx hb hK.1 hP hD hS 1 (f := (rwN (fun j => if j < k then 0 else s j))) rfl (by omega) (by decide) dX6_begin_17 (fun H locs hP hD hS => ?_)
        have hP : va_P D vwCl [(m, .inr (4, mF r g)), (r 1, .inl (ca 0, 38, .inl (upd (rwN (fun j => if j < k then 0 else s j)) k (nI 0))))] H := hP
        have hD : va_D A [(m, .inr (4, mF r g)), (r 1, .inl (ca 0, 38, .inl (upd (rwN (fun j => if j < k then 0 else s j)) k (nI 0))))] := hD
        rw [rwN_up] at hP hD
        rw [bz_s s k] at hP hD
        refine lv_iinc (v := (nI (k + 1))) (lv' := [(4, .int (nI (k + 1))), (0, .ref m), (1, .int (nI z)), (2, .int (nI n)), (3, .int (nI q))]) hx hb dX6_begin_18 hl (k := 0) rfl (show nI k + Int32.ofInt 1 = nI (k + 1) from nI_add _ 1) (by decide) rfl (fun ls hl => ?_)
        refine lv_goto (tgt := 3) hx hb dX6_begin_21 (by decide) ?_
        exact ih3 (k + 1) (by omega) (by omega) H locs hP hD hS ls (lv_sub hl [0, 1, 2, 3, 4] rfl)
  exact loop3 39 0 (by omega) (by omega) _ _ hP hD hS ls (lv_sub hl [0, 1, 2, 3, 4] rfl)

set_option maxHeartbeats 4000000 in
set_option maxRecDepth 100000 in
theorem c_X6_names (l : Launch) (D : va_G) (ca : Nat → ClassId) (m : Nat) (r : Nat → Nat) (g : Nat → Int32) (s S : Nat → Nat) (hs : MR s S) (hok : SOK S) : RD l D ca yX6_names wsX6_names 0 0 [(m, .inr (4, mF r g)), (r 1, .inl (ca 0, 38, .inl (rwN s)))] [.ref m] (.int (nI (nmS S))) := by
  refine RD.start (cc := cX6_names) (maxL := 1) (ret := (some .int)) (by decide) rfl (Nat.le_of_ble_eq_true rfl) ?_
  intro p_ e_ s_ m_ below_ meth_ c_ hx hb hml hr hlocks hown hts hP hK ls hl
  have hown : s_.vm.findClass RX6 = some m_.cls := hown
  have hl : lv_has ls 1 [(0, .ref m)] := hl
  have hinX60 : ∀ w ∈ wsX60, w ∈ wsX6_names := fun w h => List.mem_cons_of_mem _ (List.mem_append_right _ h)
  have hk0 := hok.1
  have hk3 : S 0 * (S 0 + 1) ≤ 20 := by rcases (show S 0 = 2 ∨ S 0 = 3 ∨ S 0 = 4 by omega) with e | e | e <;> rw [e] <;> decide
  refine lv_aload_n hx hb dX6_names_0 rfl (lv_at hl 0 rfl) ?_
  refine va_get (D := D) (ci := 4) (v := .ref (r 1)) (C := RX6) (T := TX6) (N := 34) hx hb hts hinX60 hown hK.1 hP 0 rfl rfl 1 (by decide) (hts (.fieldLink RX6 7 "RenamingGridModel" "s" "[I") (List.mem_of_getElem? (i := 1) rfl)) (fun _ h9 => h9) rfl dX6_names_1 ?_
  refine lv_iconst (v := nI 0) hx hb dX6_names_4 (by decide) ?_
  refine n_iald (D := D) (ca := ca) (v := (nI (S 0))) hx hb hK.1 hP 1 (f := (rwN s)) rfl (by omega) (by decide) (congrArg nI (hs 0 (by decide))) dX6_names_5 ?_
  refine lv_aload_n hx hb dX6_names_6 rfl (lv_at hl 0 rfl) ?_
  refine va_get (D := D) (ci := 4) (v := .ref (r 1)) (C := RX6) (T := TX6) (N := 34) hx hb hts hinX60 hown hK.1 hP 0 rfl rfl 1 (by decide) (hts (.fieldLink RX6 7 "RenamingGridModel" "s" "[I") (List.mem_of_getElem? (i := 1) rfl)) (fun _ h9 => h9) rfl dX6_names_7 ?_
  refine lv_iconst (v := nI 0) hx hb dX6_names_10 (by decide) ?_
  refine n_iald (D := D) (ca := ca) (v := (nI (S 0))) hx hb hK.1 hP 1 (f := (rwN s)) rfl (by omega) (by decide) (congrArg nI (hs 0 (by decide))) dX6_names_11 ?_
  refine lv_iconst (v := nI 1) hx hb dX6_names_12 (by decide) ?_
  refine n_iadd hx hb dX6_names_13 ?_
  refine n_imul hx hb dX6_names_14 ?_
  refine lv_iconst (v := nI 2) hx hb dX6_names_15 (by decide) ?_
  refine n_idiv hx hb (by omega) (by omega) (by omega) dX6_names_16 ?_
  exact rRetI hx hb hr hlocks rfl dX6_names_17

theorem inR_1 {n : Nat} (q : Int32) (h1 : 1 ≤ n) (h2 : n < 2 ^ 30) : bN (decide (¬ q < nI 0 ∧ ¬ nI (n - 1) < q)) = bN (decide (inR n q)) := by
  congr 1
  refine decide_eq_decide.mpr ⟨fun h => ⟨h.1, fun z => ?_⟩, fun h => ⟨h.1, fun z => ?_⟩⟩
  · obtain ⟨x, hx0, hx, rfl⟩ := rgN (lo := 0) (hi := n - 1) h.1 h.2 (by omega) (by omega)
    have := (nI_leI (by omega) (by omega)).mp z
    omega
  · obtain ⟨j, hj, rfl⟩ := inR_j (by omega) h
    have := (nI_ltI (by omega) (by omega)).mp z
    omega

set_option maxHeartbeats 4000000 in
set_option maxRecDepth 100000 in
theorem c_X6_isProcess (l : Launch) (D : va_G) (ca : Nat → ClassId) (m : Nat) (r : Nat → Nat) (g : Nat → Int32) (s S : Nat → Nat) (hs : MR s S) (hok : SOK S) (q : Int32) : RD l D ca yX6_isProcess wsX6_isProcess 1 22 [(m, .inr (4, mF r g)), (r 1, .inl (ca 0, 38, .inl (rwN s)))] [.ref m, .int q] (.int (nI (bN (decide (inR (S 1) q))))) := by
  refine RD.start (cc := cX6_isProcess) (maxL := 2) (ret := (some .boolean)) (by decide) rfl (Nat.le_of_ble_eq_true rfl) ?_
  intro p_ e_ s_ m_ below_ meth_ c_ hx hb hml hr hlocks hown hts hP hK ls hl
  have hown : s_.vm.findClass RX6 = some m_.cls := hown
  have hl : lv_has ls 2 [(0, .ref m), (1, .int q)] := hl
  have hinX60 : ∀ w ∈ wsX60, w ∈ wsX6_isProcess := fun w h => List.mem_cons_of_mem _ (List.mem_append_right _ h)
  have hk1 := hok.2.1
  refine lv_iload_n hx hb dX6_isProcess_0 rfl (lv_at hl 1 rfl) ?_
  refine lv_iconst (v := nI 0) hx hb dX6_isProcess_1 (by decide) ?_
  refine lv_aload_n hx hb dX6_isProcess_2 rfl (lv_at hl 0 rfl) ?_
  refine va_get (D := D) (ci := 4) (v := .ref (r 1)) (C := RX6) (T := TX6) (N := 34) hx hb hts hinX60 hown hK.1 hP 0 rfl rfl 1 (by decide) (hts (.fieldLink RX6 7 "RenamingGridModel" "s" "[I") (List.mem_of_getElem? (i := 1) rfl)) (fun _ h9 => h9) rfl dX6_isProcess_3 ?_
  refine lv_iconst (v := nI 1) hx hb dX6_isProcess_6 (by decide) ?_
  refine n_iald (D := D) (ca := ca) (v := (nI (S 1))) hx hb hK.1 hP 1 (f := (rwN s)) rfl (by omega) (by decide) (congrArg nI (hs 1 (by decide))) dX6_isProcess_7 ?_
  refine lv_iconst (v := nI 1) hx hb dX6_isProcess_8 (by decide) ?_
  refine n_isub hx hb (by omega) dX6_isProcess_9 ?_
  refine rdS (nL := 2) hx hb hml hown hts hK hP [.int q, .int (nI 0), .int (nI ((S 1) - 1))] [] (c_X6_in l D ca q (nI 0) (nI ((S 1) - 1))) gX6_isProcess_X6_in rfl qX6_in ⟨Nat.le_of_ble_eq_true rfl, Nat.le_of_ble_eq_true rfl⟩ [] rfl rfl hl.1 (Nat.le_of_ble_eq_true rfl) ⟨Nat.le_of_ble_eq_true rfl, Nat.le_of_ble_eq_true rfl⟩ dX6_isProcess_10 ?_
  exact rRetZ hx hb hr hlocks (nar_b (bN_b1 _)) (congrArg (fun z => Value.int (nI z)) (inR_1 q (by omega) (by omega))) dX6_isProcess_13

set_option maxHeartbeats 4000000 in
set_option maxRecDepth 100000 in
theorem c_X6_isSplitter (l : Launch) (D : va_G) (ca : Nat → ClassId) (m : Nat) (r : Nat → Nat) (g : Nat → Int32) (s S : Nat → Nat) (hs : MR s S) (hok : SOK S) (q : Int32) : RD l D ca yX6_isSplitter wsX6_isSplitter 1 22 [(m, .inr (4, mF r g)), (r 1, .inl (ca 0, 38, .inl (rwN s)))] [.ref m, .int q] (.int (nI (bN (decide (inR (nmS S) q))))) := by
  refine RD.start (cc := cX6_isSplitter) (maxL := 2) (ret := (some .boolean)) (by decide) rfl (Nat.le_of_ble_eq_true rfl) ?_
  intro p_ e_ s_ m_ below_ meth_ c_ hx hb hml hr hlocks hown hts hP hK ls hl
  have hown : s_.vm.findClass RX6 = some m_.cls := hown
  have hl : lv_has ls 2 [(0, .ref m), (1, .int q)] := hl
  have hinX60 : ∀ w ∈ wsX60, w ∈ wsX6_isSplitter := fun w h => List.mem_cons_of_mem _ (List.mem_append_right _ h)
  have hk1 := nmS_le hok
  have hk2 : 1 ≤ nmS S := nmS_pos hok
  refine lv_iload_n hx hb dX6_isSplitter_0 rfl (lv_at hl 1 rfl) ?_
  refine lv_iconst (v := nI 0) hx hb dX6_isSplitter_1 (by decide) ?_
  refine lv_aload_n hx hb dX6_isSplitter_2 rfl (lv_at hl 0 rfl) ?_
  refine rdV (nL := 2) (ci := 4) (q0 := 0) (cq := (RX6, TX6, 34)) hx hb hml hown hts hK hP [] [.int (nI 0), .int q] (c_X6_names l D ca m r g s S hs hok) gX6_isSplitter_X6_names rfl ⟨rfl, qX6_names⟩ ⟨Nat.le_of_ble_eq_true rfl, Nat.le_of_ble_eq_true rfl⟩ rfl rfl [0, 1] rfl rfl hl.1 (Nat.le_of_ble_eq_true rfl) ⟨Nat.le_of_ble_eq_true rfl, Nat.le_of_ble_eq_true rfl⟩ dX6_isSplitter_3 ?_
  refine lv_iconst (v := nI 1) hx hb dX6_isSplitter_6 (by decide) ?_
  refine n_isub hx hb (by omega) dX6_isSplitter_7 ?_
  refine rdS (nL := 2) hx hb hml hown hts hK hP [.int q, .int (nI 0), .int (nI ((nmS S) - 1))] [] (c_X6_in l D ca q (nI 0) (nI ((nmS S) - 1))) gX6_isSplitter_X6_in rfl qX6_in ⟨Nat.le_of_ble_eq_true rfl, Nat.le_of_ble_eq_true rfl⟩ [] rfl rfl hl.1 (Nat.le_of_ble_eq_true rfl) ⟨Nat.le_of_ble_eq_true rfl, Nat.le_of_ble_eq_true rfl⟩ dX6_isSplitter_8 ?_
  exact rRetZ hx hb hr hlocks (nar_b (bN_b1 _)) (congrArg (fun z => Value.int (nI z)) (inR_1 q (by omega) (by omega))) dX6_isSplitter_11

set_option maxHeartbeats 4000000 in
set_option maxRecDepth 100000 in
theorem c_X6_running (l : Launch) (D : va_G) (ca : Nat → ClassId) (m : Nat) (r : Nat → Nat) (g : Nat → Int32) (s S : Nat → Nat) (hs : MR s S) (hok : SOK S) : UP l D ca yX6_running wsX6_running 1 21 0 0 [(m, .inr (4, mF r g)), (r 1, .inl (ca 0, 38, .inl (rwN s)))] [.ref m] (one (some (.int (nI (runC (S 3) (S 1))))) [(m, .inr (4, mF r (upd (upd g 8 (nI (regs (S 3)))) 9 (nI (qn (S 3)))))), (r 1, .inl (ca 0, 38, .inl (rwN s)))]) := by
  refine UP.start (cc := cX6_running) (maxL := 3) (ret := (some .int)) (by decide) rfl (Nat.le_of_ble_eq_true rfl) ?_
  intro p_ e_ s_ m_ below_ meth_ c_ A hx hb hml hr hlocks hin hown hts hK hA hP hD hS ls hl
  have hown : s_.vm.findClass RX6 = some m_.cls := hown
  have hl : lv_has ls 3 [(0, .ref m)] := hl
  have hinX60 : ∀ w ∈ wsX60, w ∈ wsX6_running := fun w h => List.mem_cons_of_mem _ (List.mem_append_right _ h)
  have hk1 := hok.2.1
  refine lv_aload_n hx hb dX6_running_0 rfl (lv_at hl 0 rfl) ?_
  refine uV (nL := 3) (wr := []) (ci := 4) (q0 := 0) (cq := (RX6, TX6, 34)) hx hb hml hown hts hK hA hP hD hS [] [] (c_X6_take l D ca m r g s S hs) gX6_running_X6_take rfl ⟨rfl, qX6_take⟩ ⟨Nat.le_of_ble_eq_true rfl, Nat.le_of_ble_eq_true rfl⟩ rfl rfl [0, 1] [] rfl rfl (by decide) (by decide) rfl hl.1 (Nat.le_of_ble_eq_true rfl) ⟨Nat.le_of_ble_eq_true rfl, Nat.le_of_ble_eq_true rfl⟩ dX6_running_1 (oneK (wsN := [(m, .inr (4, mF r (upd (upd g 8 (nI (regs (S 3)))) 9 (nI (qn (S 3)))))), (r 1, .inl (ca 0, 38, .inl (rwN s)))]) [0, 1] (by decide) rfl (st1 := []) rfl 0 0 rfl rfl (fun H locs hP hD hS => ?_))
  refine lv_iconst (v := nI 0) hx hb dX6_running_4 (by decide) ?_
  refine lv_istore_n (lv' := [(1, .int (nI 0)), (0, .ref m)]) hx hb dX6_running_5 rfl hl (by decide) rfl (fun ls hl => ?_)
  refine lv_iconst (v := nI 0) hx hb dX6_running_6 (by decide) ?_
  refine lv_istore_n (lv' := [(2, .int (nI 0)), (1, .int (nI 0)), (0, .ref m)]) hx hb dX6_running_7 rfl hl (by decide) rfl (fun ls hl => ?_)
  have loop8 : ∀ (N_ : Nat) (k : Nat) (n : Nat) (hk : k ≤ S 1) (hn : n = runC (S 3) k) (hf : S 1 < k + N_), ∀ (H : Heap) (locs : List Loc), va_P D vwCl [(m, .inr (4, mF r (upd (upd g 8 (nI (regs (S 3)))) 9 (nI (qn (S 3)))))), (r 1, .inl (ca 0, 38, .inl (rwN s)))] H → va_D A [(m, .inr (4, mF r (upd (upd g 8 (nI (regs (S 3)))) 9 (nI (qn (S 3)))))), (r 1, .inl (ca 0, 38, .inl (rwN s)))] → va_S A s_.heap H locs → ∀ (ls : Array Slot), lv_has ls 3 [(2, .int (nI k)), (1, .int (nI n)), (0, .ref m)] → W p_ l e_ ({ frames := 1, cells := 0, slots := 0, locals := 21 }) s_ m_ ([.ref m]).toArray below_ meth_ c_ H locs 0 0 (MQ below_ (uQA D ca A (one (some (.int (nI (runC (S 3) (S 1))))) [(m, .inr (4, mF r (upd (upd g 8 (nI (regs (S 3)))) 9 (nI (qn (S 3)))))), (r 1, .inl (ca 0, 38, .inl (rwN s)))])) ([.ref m]).toArray s_ 0 0 A) (F0 m_ 8 ls []) := by
    intro N_
    induction N_ with
    | zero => intro k n hk hn hf; exfalso; omega
    | succ N_ ih8 =>
      intro k n hk hn hf H locs hP hD hS ls hl
      refine lv_iload_n hx hb dX6_running_8 rfl (lv_at hl 0 rfl) ?_
      refine lv_aload_n hx hb dX6_running_9 rfl (lv_at hl 2 rfl) ?_
      refine va_get (D := D) (ci := 4) (v := .ref (r 1)) (C := RX6) (T := TX6) (N := 34) hx hb hts hinX60 hown hK.1 hP 0 rfl rfl 1 (by decide) (hts (.fieldLink RX6 7 "RenamingGridModel" "s" "[I") (List.mem_of_getElem? (i := 1) rfl)) (fun _ h9 => h9) rfl dX6_running_10 ?_
      refine lv_iconst (v := nI 1) hx hb dX6_running_13 (by decide) ?_
      refine n_iald (D := D) (ca := ca) (v := (nI (S 1))) hx hb hK.1 hP 1 (f := (rwN s)) rfl (by omega) (by decide) (congrArg nI (hs 1 (by decide))) dX6_running_14 ?_
      refine n_ic_ge (tgt := 40) hx hb dX6_running_15 (by decide) (by omega) (by omega) (fun c15 => ?_) (fun c15 => ?_)
      · refine lv_iload_n hx hb dX6_running_40 rfl (lv_at hl 1 rfl) ?_
        have hkk : k = S 1 := by omega
        subst hkk
        exact uRetI hx hb hr hlocks hK hP hD hS ⟨by rw [hn], rfl⟩ (Nat.le_of_ble_eq_true rfl) (Nat.le_of_ble_eq_true rfl) dX6_running_41
      · refine lv_iload_n hx hb dX6_running_18 rfl (lv_at hl 1 rfl) ?_
        refine lv_aload_n hx hb dX6_running_19 rfl (lv_at hl 2 rfl) ?_
        refine lv_iload_n hx hb dX6_running_20 rfl (lv_at hl 0 rfl) ?_
        refine rdV (nL := 3) (ci := 4) (q0 := 0) (cq := (RX6, TX6, 34)) hx hb hml hown hts hK hP [.int (nI k)] [.int (nI n)] (c_X6_statusIn l D ca m r ((upd (upd g 8 (nI (regs (S 3)))) 9 (nI (qn (S 3))))) (qn (S 3)) rfl (qn_lt _) k (by omega)) gX6_running_X6_statusIn rfl ⟨rfl, qX6_statusIn⟩ ⟨Nat.le_of_ble_eq_true rfl, Nat.le_of_ble_eq_true rfl⟩ rfl rfl [0] rfl rfl hl.1 (Nat.le_of_ble_eq_true rfl) ⟨Nat.le_of_ble_eq_true rfl, Nat.le_of_ble_eq_true rfl⟩ dX6_running_21 ?_
        rw [show (nI (gF (qn (S 3)) (8 * k) 2)) = (nI (stC (S 3) k)) from (by rw [qn_st (by omega)])]
        refine n_if_ne (tgt := 31) hx hb dX6_running_24 (by decide) (stC_b _ _) (fun c24 => ?_) (fun c24 => ?_)
        · refine lv_iconst (v := nI 0) hx hb dX6_running_31 (by decide) ?_
          refine n_iadd hx hb dX6_running_32 ?_
          refine lv_istore_n (lv' := [(1, .int (nI (n + 0))), (2, .int (nI k)), (0, .ref m)]) hx hb dX6_running_33 rfl hl (by decide) rfl (fun ls hl => ?_)
          refine lv_iinc (v := (nI (k + 1))) (lv' := [(2, .int (nI (k + 1))), (1, .int (nI (n + 0))), (0, .ref m)]) hx hb dX6_running_34 hl (k := 1) rfl (show nI k + Int32.ofInt 1 = nI (k + 1) from nI_add _ 1) (by decide) rfl (fun ls hl => ?_)
          refine lv_goto (tgt := 8) hx hb dX6_running_37 (by decide) ?_
          exact ih8 (k + 1) (n + 0) (by omega) (by rw [runC_f c24, hn]; rfl) (by omega) H locs hP hD hS ls (lv_sub hl [0, 1, 2] rfl)
        · refine lv_iconst (v := nI 1) hx hb dX6_running_27 (by decide) ?_
          refine lv_goto (tgt := 32) hx hb dX6_running_28 (by decide) ?_
          refine n_iadd hx hb dX6_running_32 ?_
          refine lv_istore_n (lv' := [(1, .int (nI (n + 1))), (2, .int (nI k)), (0, .ref m)]) hx hb dX6_running_33 rfl hl (by decide) rfl (fun ls hl => ?_)
          refine lv_iinc (v := (nI (k + 1))) (lv' := [(2, .int (nI (k + 1))), (1, .int (nI (n + 1))), (0, .ref m)]) hx hb dX6_running_34 hl (k := 1) rfl (show nI k + Int32.ofInt 1 = nI (k + 1) from nI_add _ 1) (by decide) rfl (fun ls hl => ?_)
          refine lv_goto (tgt := 8) hx hb dX6_running_37 (by decide) ?_
          exact ih8 (k + 1) (n + 1) (by omega) (by rw [runC_t c24, hn]) (by omega) H locs hP hD hS ls (lv_sub hl [0, 1, 2] rfl)
  exact loop8 (S 1 + 1) 0 0 (by omega) rfl (by omega) _ _ hP hD hS ls (lv_sub hl [0, 1, 2] rfl)

