set_option maxHeartbeats 4000000 in
set_option maxRecDepth 100000 in
theorem c_X3_init (l : Launch) (D : va_G) (ca : Nat → ClassId) (h : Nat) : UP l D ca yX3_init wsX3_init 1 12 3 160 [(h, .inr (1, [.null, .int (nI 0), .null, .null, .int (nI 0)]))] [.ref h] (fun v W1 => v = none ∧ ∃ tx ip ic : Nat, W1 = [(h, .inr (1, [.ref tx, .int (nI 0), .ref ip, .ref ic, .int (nI 0)])), (tx, .inl (ca 2, 80, .inl (rwN ((fun _ => 0))))), (ip, .inl (ca 0, 40, .inl (rwN ((fun _ => 0))))), (ic, .inl (ca 0, 40, .inl (rwN ((fun _ => 0)))))]) := by
  refine UP.start (cc := cX3_init) (maxL := 1) (ret := none) (by decide) rfl (Nat.le_of_ble_eq_true rfl) ?_
  intro p_ e_ s_ m_ below_ meth_ c_ A hx hb hml hr hlocks hin hown hts hK hA hP hD hS ls hl
  have hown : s_.vm.findClass RX3 = some m_.cls := hown
  have hl : lv_has ls 1 [(0, .ref h)] := hl
  have hinX30 : ∀ w ∈ wsX30, w ∈ wsX3_init := fun w h => List.mem_cons_of_mem _ (List.mem_append_right _ h)
  refine lv_aload_n hx hb dX3_init_0 rfl (lv_at hl 0 rfl) ?_
  refine W.objInit hx hb hown (hts (.methodLink RX3 3 objectInit) (List.mem_of_getElem? (i := 1) rfl)) (hts (.instanceMethod objectInit) (List.mem_of_getElem? (i := 2) rfl)) (hts (.code objectInit ⟨#[0xb1]⟩ 1 none) (List.mem_of_getElem? (i := 3) rfl)) rfl (by rw [hml]; exact hl.1) rfl dX3_init_1 (Nat.le_of_ble_eq_true rfl) (Nat.le_of_ble_eq_true rfl) ?_
  refine W.eq (g2 := F0 m_ 4 ls []) rfl ?_
  refine lv_aload_n hx hb dX3_init_4 rfl (lv_at hl 0 rfl) ?_
  refine lv_bipush (v := nI 80) hx hb dX3_init_5 (by decide) ?_
  refine n_newaC (D := D) (ca := ca) hx hb (hts (.arrayClass .char) (List.mem_of_getElem? (i := 4) rfl)) hK.1 hP hD hS hA (N1 := 80) (by decide) (by decide) (by decide) (by decide) dX3_init_7 (fun tx H hP hD hS => ?_)
  have hP : va_P D vwCl [(h, .inr (1, [.null, .int (nI 0), .null, .null, .int (nI 0)])), (tx, .inl (ca 2, 80, .inl (fun _ => 0)))] H := hP
  have hD : va_D A [(h, .inr (1, [.null, .int (nI 0), .null, .null, .int (nI 0)])), (tx, .inl (ca 2, 80, .inl (fun _ => 0)))] := hD
  refine W.cs (cells' := 1) (slots' := 80) (by decide) (by decide) ?_
  refine va_putF (D := D) (ci := 1) (v := .ref tx) (ty := tyX3 0) (C := RX3) (T := TX3) (N := 5) hx hb hts hinX30 tyX3 tyX3_ok nmX3 hown hK.1 hP hD hS 0 rfl rfl 0 (by decide) (hts (.fieldLink RX3 9 "RenamingGrid$Schedule" "text" "[C") (List.mem_of_getElem? (i := 5) rfl)) (fun _ h9 => h9) rfl hin rfl (tyX3_ok 0 (by decide)) rfl rfl (Nat.le_of_ble_eq_true rfl) dX3_init_9 (fun H locs hP hD hS => ?_)
  have hP : va_P D vwCl [(h, .inr (1, [.ref tx, .int (nI 0), .null, .null, .int (nI 0)])), (tx, .inl (ca 2, 80, .inl (fun _ => 0)))] H := hP
  have hD : va_D A [(h, .inr (1, [.ref tx, .int (nI 0), .null, .null, .int (nI 0)])), (tx, .inl (ca 2, 80, .inl (fun _ => 0)))] := hD
  refine lv_aload_n hx hb dX3_init_12 rfl (lv_at hl 0 rfl) ?_
  refine lv_bipush (v := nI 40) hx hb dX3_init_13 (by decide) ?_
  refine n_newaI (D := D) (ca := ca) hx hb (hts (.arrayClass .int) (List.mem_of_getElem? (i := 6) rfl)) hK.1 hP hD hS hA (N1 := 40) (by decide) (by decide) (by decide) (by decide) dX3_init_15 (fun ip H hP hD hS => ?_)
  have hP : va_P D vwCl [(h, .inr (1, [.ref tx, .int (nI 0), .null, .null, .int (nI 0)])), (tx, .inl (ca 2, 80, .inl (fun _ => 0))), (ip, .inl (ca 0, 40, .inl (fun _ => 0)))] H := hP
  have hD : va_D A [(h, .inr (1, [.ref tx, .int (nI 0), .null, .null, .int (nI 0)])), (tx, .inl (ca 2, 80, .inl (fun _ => 0))), (ip, .inl (ca 0, 40, .inl (fun _ => 0)))] := hD
  refine W.cs (cells' := 2) (slots' := 120) (by decide) (by decide) ?_
  refine va_putF (D := D) (ci := 1) (v := .ref ip) (ty := tyX3 2) (C := RX3) (T := TX3) (N := 5) hx hb hts hinX30 tyX3 tyX3_ok nmX3 hown hK.1 hP hD hS 0 rfl rfl 2 (by decide) (hts (.fieldLink RX3 13 "RenamingGrid$Schedule" "itemProcesses" "[I") (List.mem_of_getElem? (i := 7) rfl)) (fun _ h9 => h9) rfl hin rfl (tyX3_ok 2 (by decide)) rfl rfl (Nat.le_of_ble_eq_true rfl) dX3_init_17 (fun H locs hP hD hS => ?_)
  have hP : va_P D vwCl [(h, .inr (1, [.ref tx, .int (nI 0), .ref ip, .null, .int (nI 0)])), (tx, .inl (ca 2, 80, .inl (fun _ => 0))), (ip, .inl (ca 0, 40, .inl (fun _ => 0)))] H := hP
  have hD : va_D A [(h, .inr (1, [.ref tx, .int (nI 0), .ref ip, .null, .int (nI 0)])), (tx, .inl (ca 2, 80, .inl (fun _ => 0))), (ip, .inl (ca 0, 40, .inl (fun _ => 0)))] := hD
  refine lv_aload_n hx hb dX3_init_20 rfl (lv_at hl 0 rfl) ?_
  refine lv_bipush (v := nI 40) hx hb dX3_init_21 (by decide) ?_
  refine n_newaI (D := D) (ca := ca) hx hb (hts (.arrayClass .int) (List.mem_of_getElem? (i := 6) rfl)) hK.1 hP hD hS hA (N1 := 40) (by decide) (by decide) (by decide) (by decide) dX3_init_23 (fun ic H hP hD hS => ?_)
  have hP : va_P D vwCl [(h, .inr (1, [.ref tx, .int (nI 0), .ref ip, .null, .int (nI 0)])), (tx, .inl (ca 2, 80, .inl (fun _ => 0))), (ip, .inl (ca 0, 40, .inl (fun _ => 0))), (ic, .inl (ca 0, 40, .inl (fun _ => 0)))] H := hP
  have hD : va_D A [(h, .inr (1, [.ref tx, .int (nI 0), .ref ip, .null, .int (nI 0)])), (tx, .inl (ca 2, 80, .inl (fun _ => 0))), (ip, .inl (ca 0, 40, .inl (fun _ => 0))), (ic, .inl (ca 0, 40, .inl (fun _ => 0)))] := hD
  refine W.cs (cells' := 3) (slots' := 160) (by decide) (by decide) ?_
  refine va_putF (D := D) (ci := 1) (v := .ref ic) (ty := tyX3 3) (C := RX3) (T := TX3) (N := 5) hx hb hts hinX30 tyX3 tyX3_ok nmX3 hown hK.1 hP hD hS 0 rfl rfl 3 (by decide) (hts (.fieldLink RX3 17 "RenamingGrid$Schedule" "itemCounts" "[I") (List.mem_of_getElem? (i := 8) rfl)) (fun _ h9 => h9) rfl hin rfl (tyX3_ok 3 (by decide)) rfl rfl (Nat.le_of_ble_eq_true rfl) dX3_init_25 (fun H locs hP hD hS => ?_)
  have hP : va_P D vwCl [(h, .inr (1, [.ref tx, .int (nI 0), .ref ip, .ref ic, .int (nI 0)])), (tx, .inl (ca 2, 80, .inl (fun _ => 0))), (ip, .inl (ca 0, 40, .inl (fun _ => 0))), (ic, .inl (ca 0, 40, .inl (fun _ => 0)))] H := hP
  have hD : va_D A [(h, .inr (1, [.ref tx, .int (nI 0), .ref ip, .ref ic, .int (nI 0)])), (tx, .inl (ca 2, 80, .inl (fun _ => 0))), (ip, .inl (ca 0, 40, .inl (fun _ => 0))), (ic, .inl (ca 0, 40, .inl (fun _ => 0)))] := hD
  exact uRetV hx hb hr hlocks hK hP hD hS ⟨rfl, tx, ip, ic, rfl⟩ (Nat.le_of_ble_eq_true rfl) (Nat.le_of_ble_eq_true rfl) dX3_init_28

set_option maxHeartbeats 4000000 in
set_option maxRecDepth 100000 in
theorem c_X3_isFull (l : Launch) (D : va_G) (ca : Nat → ClassId) (h tx ip ic : Nat) (L c : Nat) (T : Nat → Nat) (hL : L ≤ 80) : RD l D ca yX3_isFull wsX3_isFull 0 0 [(h, .inr (1, [.ref tx, .int (nI L), .ref ip, .ref ic, .int (nI c)])), (tx, .inl (ca 2, 80, .inl (rwN T)))] [.ref h] (.int (nI (bN (decide (80 ≤ L))))) := by
  refine RD.start (cc := cX3_isFull) (maxL := 1) (ret := (some .boolean)) (by decide) rfl (Nat.le_of_ble_eq_true rfl) ?_
  intro p_ e_ s_ m_ below_ meth_ c_ hx hb hml hr hlocks hown hts hP hK ls hl
  have hown : s_.vm.findClass RX3 = some m_.cls := hown
  have hl : lv_has ls 1 [(0, .ref h)] := hl
  have hinX30 : ∀ w ∈ wsX30, w ∈ wsX3_isFull := fun w h => List.mem_cons_of_mem _ (List.mem_append_right _ h)
  refine lv_aload_n hx hb dX3_isFull_0 rfl (lv_at hl 0 rfl) ?_
  refine va_get (D := D) (ci := 1) (v := .int (nI L)) (C := RX3) (T := TX3) (N := 5) hx hb hts hinX30 hown hK.1 hP 0 rfl rfl 1 (by decide) (hts (.fieldLink RX3 20 "RenamingGrid$Schedule" "length" "I") (List.mem_of_getElem? (i := 1) rfl)) (fun _ h9 => h9) rfl dX3_isFull_1 ?_
  refine lv_aload_n hx hb dX3_isFull_4 rfl (lv_at hl 0 rfl) ?_
  refine va_get (D := D) (ci := 1) (v := .ref tx) (C := RX3) (T := TX3) (N := 5) hx hb hts hinX30 hown hK.1 hP 0 rfl rfl 0 (by decide) (hts (.fieldLink RX3 9 "RenamingGrid$Schedule" "text" "[C") (List.mem_of_getElem? (i := 2) rfl)) (fun _ h9 => h9) rfl dX3_isFull_5 ?_
  refine va_alen (D := D) (v := nI 80) hx hb hK.1 hP 1 2 rfl rfl rfl dX3_isFull_8 ?_
  refine n_ic_lt (tgt := 16) hx hb dX3_isFull_9 (by decide) (by omega) (by decide) (fun c9 => ?_) (fun c9 => ?_)
  · refine lv_iconst (v := nI 0) hx hb dX3_isFull_16 (by decide) ?_
    exact rRetZ hx hb hr hlocks rfl (congrArg (fun z => Value.int (nI z)) (by symm; first | exact bN_t (by omega) | exact bN_f (by omega))) dX3_isFull_17
  · refine lv_iconst (v := nI 1) hx hb dX3_isFull_12 (by decide) ?_
    refine lv_goto (tgt := 17) hx hb dX3_isFull_13 (by decide) ?_
    exact rRetZ hx hb hr hlocks rfl (congrArg (fun z => Value.int (nI z)) (by symm; first | exact bN_t (by omega) | exact bN_f (by omega))) dX3_isFull_17

set_option maxHeartbeats 4000000 in
set_option maxRecDepth 100000 in
theorem c_X3_add (l : Launch) (D : va_G) (ca : Nat → ClassId) (h tx ip ic : Nat) (L c : Nat) (T : Nat → Nat) (x : Nat) (hL : L < 80) (hx1 : x ≤ 255) : UP l D ca yX3_add wsX3_add 1 20 0 0 [(h, .inr (1, [.ref tx, .int (nI L), .ref ip, .ref ic, .int (nI c)])), (tx, .inl (ca 2, 80, .inl (rwN T)))] [.ref h, .int (nI x)] (one (some (.int (nI (L + 1)))) [(h, .inr (1, [.ref tx, .int (nI (L + 1)), .ref ip, .ref ic, .int (nI c)])), (tx, .inl (ca 2, 80, .inl (rwN (va_up T L x))))]) := by
  refine UP.start (cc := cX3_add) (maxL := 2) (ret := (some .int)) (by decide) rfl (Nat.le_of_ble_eq_true rfl) ?_
  intro p_ e_ s_ m_ below_ meth_ c_ A hx hb hml hr hlocks hin hown hts hK hA hP hD hS ls hl
  have hown : s_.vm.findClass RX3 = some m_.cls := hown
  have hl : lv_has ls 2 [(0, .ref h), (1, .int (nI x))] := hl
  have hinX30 : ∀ w ∈ wsX30, w ∈ wsX3_add := fun w h => List.mem_cons_of_mem _ (List.mem_append_right _ h)
  refine lv_aload_n hx hb dX3_add_0 rfl (lv_at hl 0 rfl) ?_
  refine rdV (nL := 2) (ci := 1) (q0 := 0) (cq := (RX3, TX3, 5)) hx hb hml hown hts hK hP [] [] (c_X3_isFull l D ca h tx ip ic L c T (by omega)) gX3_add_X3_isFull rfl ⟨rfl, qX3_isFull⟩ ⟨Nat.le_of_ble_eq_true rfl, Nat.le_of_ble_eq_true rfl⟩ rfl rfl [0, 1] rfl rfl hl.1 (Nat.le_of_ble_eq_true rfl) ⟨Nat.le_of_ble_eq_true rfl, Nat.le_of_ble_eq_true rfl⟩ dX3_add_1 ?_
  refine n_if_ne (tgt := 27) hx hb dX3_add_4 (by decide) (bN_b _) (fun c4 => absurd c4 (fun z => absurd (bN_1.mp z) (by omega))) (fun c4 => ?_)
  rw [bN_0] at c4
  refine lv_aload_n hx hb dX3_add_7 rfl (lv_at hl 0 rfl) ?_
  refine va_get (D := D) (ci := 1) (v := .ref tx) (C := RX3) (T := TX3) (N := 5) hx hb hts hinX30 hown hK.1 hP 0 rfl rfl 0 (by decide) (hts (.fieldLink RX3 9 "RenamingGrid$Schedule" "text" "[C") (List.mem_of_getElem? (i := 1) rfl)) (fun _ h9 => h9) rfl dX3_add_8 ?_
  refine lv_aload_n hx hb dX3_add_11 rfl (lv_at hl 0 rfl) ?_
  refine va_get (D := D) (ci := 1) (v := .int (nI L)) (C := RX3) (T := TX3) (N := 5) hx hb hts hinX30 hown hK.1 hP 0 rfl rfl 1 (by decide) (hts (.fieldLink RX3 20 "RenamingGrid$Schedule" "length" "I") (List.mem_of_getElem? (i := 2) rfl)) (fun _ h9 => h9) rfl dX3_add_12 ?_
  refine lv_iload_n hx hb dX3_add_15 rfl (lv_at hl 1 rfl) ?_
  refine n_cast (D := D) (ca := ca) hx hb hK.1 hP hD hS 1 (f := (rwN T)) rfl (by omega) (by decide) (nar_char (by omega)) dX3_add_16 (fun H locs hP hD hS => ?_)
  have hP : va_P D vwCl [(h, .inr (1, [.ref tx, .int (nI L), .ref ip, .ref ic, .int (nI c)])), (tx, .inl (ca 2, 80, .inl (upd (rwN T) L (nI x))))] H := hP
  have hD : va_D A [(h, .inr (1, [.ref tx, .int (nI L), .ref ip, .ref ic, .int (nI c)])), (tx, .inl (ca 2, 80, .inl (upd (rwN T) L (nI x))))] := hD
  rw [rwN_up] at hP hD
  refine lv_aload_n hx hb dX3_add_17 rfl (lv_at hl 0 rfl) ?_
  refine lv_dup hx hb dX3_add_18 rfl ?_
  refine va_get (D := D) (ci := 1) (v := .int (nI L)) (C := RX3) (T := TX3) (N := 5) hx hb hts hinX30 hown hK.1 hP 0 rfl rfl 1 (by decide) (hts (.fieldLink RX3 20 "RenamingGrid$Schedule" "length" "I") (List.mem_of_getElem? (i := 2) rfl)) (fun _ h9 => h9) rfl dX3_add_19 ?_
  refine lv_iconst (v := nI 1) hx hb dX3_add_22 (by decide) ?_
  refine n_iadd hx hb dX3_add_23 ?_
  refine va_put (D := D) (ci := 1) (v := .int (nI (L + 1))) (ty := tyX3 1) (C := RX3) (T := TX3) (N := 5) hx hb hts hinX30 tyX3 tyX3_ok nmX3 hown hK.1 hP hD hS 0 rfl rfl 1 (by decide) (hts (.fieldLink RX3 20 "RenamingGrid$Schedule" "length" "I") (List.mem_of_getElem? (i := 2) rfl)) (fun _ h9 => h9) rfl (tyX3_ok 1 (by decide)) rfl rfl (Nat.le_of_ble_eq_true rfl) dX3_add_24 (fun H locs hP hD hS => ?_)
  have hP : va_P D vwCl [(h, .inr (1, [.ref tx, .int (nI (L + 1)), .ref ip, .ref ic, .int (nI c)])), (tx, .inl (ca 2, 80, .inl (rwN (va_up T L x))))] H := hP
  have hD : va_D A [(h, .inr (1, [.ref tx, .int (nI (L + 1)), .ref ip, .ref ic, .int (nI c)])), (tx, .inl (ca 2, 80, .inl (rwN (va_up T L x))))] := hD
  refine lv_aload_n hx hb dX3_add_27 rfl (lv_at hl 0 rfl) ?_
  refine va_get (D := D) (ci := 1) (v := .int (nI (L + 1))) (C := RX3) (T := TX3) (N := 5) hx hb hts hinX30 hown hK.1 hP 0 rfl rfl 1 (by decide) (hts (.fieldLink RX3 20 "RenamingGrid$Schedule" "length" "I") (List.mem_of_getElem? (i := 2) rfl)) (fun _ h9 => h9) rfl dX3_add_28 ?_
  exact uRetI hx hb hr hlocks hK hP hD hS ⟨rfl, rfl⟩ (Nat.le_of_ble_eq_true rfl) (Nat.le_of_ble_eq_true rfl) dX3_add_31

set_option maxHeartbeats 4000000 in
set_option maxRecDepth 100000 in
theorem c_X3_clear (l : Launch) (D : va_G) (ca : Nat → ClassId) (h tx ip ic : Nat) (L c : Nat) : UP l D ca yX3_clear wsX3_clear 0 0 0 0 [(h, .inr (1, [.ref tx, .int (nI L), .ref ip, .ref ic, .int (nI c)]))] [.ref h] (one (some (.int (nI L))) [(h, .inr (1, [.ref tx, .int (nI 0), .ref ip, .ref ic, .int (nI c)]))]) := by
  refine UP.start (cc := cX3_clear) (maxL := 2) (ret := (some .int)) (by decide) rfl (Nat.le_of_ble_eq_true rfl) ?_
  intro p_ e_ s_ m_ below_ meth_ c_ A hx hb hml hr hlocks hin hown hts hK hA hP hD hS ls hl
  have hown : s_.vm.findClass RX3 = some m_.cls := hown
  have hl : lv_has ls 2 [(0, .ref h)] := hl
  have hinX30 : ∀ w ∈ wsX30, w ∈ wsX3_clear := fun w h => List.mem_cons_of_mem _ (List.mem_append_right _ h)
  refine lv_aload_n hx hb dX3_clear_0 rfl (lv_at hl 0 rfl) ?_
  refine va_get (D := D) (ci := 1) (v := .int (nI L)) (C := RX3) (T := TX3) (N := 5) hx hb hts hinX30 hown hK.1 hP 0 rfl rfl 1 (by decide) (hts (.fieldLink RX3 20 "RenamingGrid$Schedule" "length" "I") (List.mem_of_getElem? (i := 1) rfl)) (fun _ h9 => h9) rfl dX3_clear_1 ?_
  refine lv_istore_n (lv' := [(1, .int (nI L)), (0, .ref h)]) hx hb dX3_clear_4 rfl hl (by decide) rfl (fun ls hl => ?_)
  refine lv_aload_n hx hb dX3_clear_5 rfl (lv_at hl 1 rfl) ?_
  refine lv_iconst (v := nI 0) hx hb dX3_clear_6 (by decide) ?_
  refine va_put (D := D) (ci := 1) (v := .int (nI 0)) (ty := tyX3 1) (C := RX3) (T := TX3) (N := 5) hx hb hts hinX30 tyX3 tyX3_ok nmX3 hown hK.1 hP hD hS 0 rfl rfl 1 (by decide) (hts (.fieldLink RX3 20 "RenamingGrid$Schedule" "length" "I") (List.mem_of_getElem? (i := 1) rfl)) (fun _ h9 => h9) rfl (tyX3_ok 1 (by decide)) rfl rfl (Nat.le_of_ble_eq_true rfl) dX3_clear_7 (fun H locs hP hD hS => ?_)
  have hP : va_P D vwCl [(h, .inr (1, [.ref tx, .int (nI 0), .ref ip, .ref ic, .int (nI c)]))] H := hP
  have hD : va_D A [(h, .inr (1, [.ref tx, .int (nI 0), .ref ip, .ref ic, .int (nI c)]))] := hD
  refine lv_iload_n hx hb dX3_clear_10 rfl (lv_at hl 0 rfl) ?_
  exact uRetI hx hb hr hlocks hK hP hD hS ⟨rfl, rfl⟩ (Nat.le_of_ble_eq_true rfl) (Nat.le_of_ble_eq_true rfl) dX3_clear_11

set_option maxHeartbeats 4000000 in
set_option maxRecDepth 100000 in
theorem c_X3_characterAt (l : Launch) (D : va_G) (ca : Nat → ClassId) (h tx ip ic : Nat) (L c : Nat) (T : Nat → Nat) (q : Int32) (hL : L ≤ 80) : RD l D ca yX3_characterAt wsX3_characterAt 0 0 [(h, .inr (1, [.ref tx, .int (nI L), .ref ip, .ref ic, .int (nI c)])), (tx, .inl (ca 2, 80, .inl (rwN T)))] [.ref h, .int q] (.int ((chQ T L q))) := by
  refine RD.start (cc := cX3_characterAt) (maxL := 2) (ret := (some .int)) (by decide) rfl (Nat.le_of_ble_eq_true rfl) ?_
  intro p_ e_ s_ m_ below_ meth_ c_ hx hb hml hr hlocks hown hts hP hK ls hl
  have hown : s_.vm.findClass RX3 = some m_.cls := hown
  have hl : lv_has ls 2 [(0, .ref h), (1, .int q)] := hl
  have hinX30 : ∀ w ∈ wsX30, w ∈ wsX3_characterAt := fun w h => List.mem_cons_of_mem _ (List.mem_append_right _ h)
  refine lv_iload_n hx hb dX3_characterAt_0 rfl (lv_at hl 1 rfl) ?_
  refine lv_if_lt (tgt := 30) hx hb dX3_characterAt_1 (by decide) (fun c1 => ?_) (fun c1 => ?_)
  · refine lv_iconst (v := -1) hx hb dX3_characterAt_30 (by decide) ?_
    exact rRetI hx hb hr hlocks (congrArg Value.int (by unfold chQ; rw [if_neg (by first | exact fun z => z.1 c1 | exact fun z => z.2 c9)])) dX3_characterAt_31
  · refine lv_iload_n hx hb dX3_characterAt_4 rfl (lv_at hl 1 rfl) ?_
    refine lv_aload_n hx hb dX3_characterAt_5 rfl (lv_at hl 0 rfl) ?_
    refine va_get (D := D) (ci := 1) (v := .int (nI L)) (C := RX3) (T := TX3) (N := 5) hx hb hts hinX30 hown hK.1 hP 0 rfl rfl 1 (by decide) (hts (.fieldLink RX3 20 "RenamingGrid$Schedule" "length" "I") (List.mem_of_getElem? (i := 1) rfl)) (fun _ h9 => h9) rfl dX3_characterAt_6 ?_
    refine lv_icmp_ge (tgt := 30) hx hb dX3_characterAt_9 (by decide) (fun c9 => ?_) (fun c9 => ?_)
    · refine lv_iconst (v := -1) hx hb dX3_characterAt_30 (by decide) ?_
      exact rRetI hx hb hr hlocks (congrArg Value.int (by unfold chQ; rw [if_neg (by first | exact fun z => z.1 c1 | exact fun z => z.2 c9)])) dX3_characterAt_31
    · obtain ⟨j, hj, rfl⟩ := inR_j (by omega) ⟨c1, c9⟩
      refine lv_iload_n hx hb dX3_characterAt_12 rfl (lv_at hl 1 rfl) ?_
      refine lv_aload_n hx hb dX3_characterAt_13 rfl (lv_at hl 0 rfl) ?_
      refine va_get (D := D) (ci := 1) (v := .ref tx) (C := RX3) (T := TX3) (N := 5) hx hb hts hinX30 hown hK.1 hP 0 rfl rfl 0 (by decide) (hts (.fieldLink RX3 9 "RenamingGrid$Schedule" "text" "[C") (List.mem_of_getElem? (i := 2) rfl)) (fun _ h9 => h9) rfl dX3_characterAt_14 ?_
      refine va_alen (D := D) (v := nI 80) hx hb hK.1 hP 1 2 rfl rfl rfl dX3_characterAt_17 ?_
      refine n_ic_ge (tgt := 30) hx hb dX3_characterAt_18 (by decide) (by omega) (by decide) (fun c18 => absurd c18 (by omega)) (fun c18 => ?_)
      refine lv_aload_n hx hb dX3_characterAt_21 rfl (lv_at hl 0 rfl) ?_
      refine va_get (D := D) (ci := 1) (v := .ref tx) (C := RX3) (T := TX3) (N := 5) hx hb hts hinX30 hown hK.1 hP 0 rfl rfl 0 (by decide) (hts (.fieldLink RX3 9 "RenamingGrid$Schedule" "text" "[C") (List.mem_of_getElem? (i := 2) rfl)) (fun _ h9 => h9) rfl dX3_characterAt_22 ?_
      refine lv_iload_n hx hb dX3_characterAt_25 rfl (lv_at hl 1 rfl) ?_
      refine n_cald (D := D) (ca := ca) (v := (nI (T j))) hx hb hK.1 hP 1 (f := (rwN T)) rfl (by omega) (by decide) rfl dX3_characterAt_26 ?_
      refine lv_goto (tgt := 31) hx hb dX3_characterAt_27 (by decide) ?_
      exact rRetI hx hb hr hlocks (congrArg Value.int (by rw [chQ_nI (by omega) (by omega)]; unfold cc; rw [if_pos hj, zI_s])) dX3_characterAt_31

set_option maxHeartbeats 4000000 in
set_option maxRecDepth 100000 in
theorem c_X3_digitAt (l : Launch) (D : va_G) (ca : Nat → ClassId) (h tx ip ic : Nat) (L c : Nat) (T : Nat → Nat) (q : Int32) (hL : L ≤ 80) : RD l D ca yX3_digitAt wsX3_digitAt 1 21 [(h, .inr (1, [.ref tx, .int (nI L), .ref ip, .ref ic, .int (nI c)])), (tx, .inl (ca 2, 80, .inl (rwN T)))] [.ref h, .int q] (.int ((dgQ T L q))) := by
  refine RD.start (cc := cX3_digitAt) (maxL := 3) (ret := (some .int)) (by decide) rfl (Nat.le_of_ble_eq_true rfl) ?_
  intro p_ e_ s_ m_ below_ meth_ c_ hx hb hml hr hlocks hown hts hP hK ls hl
  have hown : s_.vm.findClass RX3 = some m_.cls := hown
  have hl : lv_has ls 3 [(0, .ref h), (1, .int q)] := hl
  have hinX30 : ∀ w ∈ wsX30, w ∈ wsX3_digitAt := fun w h => List.mem_cons_of_mem _ (List.mem_append_right _ h)
  refine lv_aload_n hx hb dX3_digitAt_0 rfl (lv_at hl 0 rfl) ?_
  refine lv_iload_n hx hb dX3_digitAt_1 rfl (lv_at hl 1 rfl) ?_
  refine rdV (nL := 3) (ci := 1) (q0 := 0) (cq := (RX3, TX3, 5)) hx hb hml hown hts hK hP [.int q] [] (c_X3_characterAt l D ca h tx ip ic L c T q hL) gX3_digitAt_X3_characterAt rfl ⟨rfl, qX3_characterAt⟩ ⟨Nat.le_of_ble_eq_true rfl, Nat.le_of_ble_eq_true rfl⟩ rfl rfl [0, 1] rfl rfl hl.1 (Nat.le_of_ble_eq_true rfl) ⟨Nat.le_of_ble_eq_true rfl, Nat.le_of_ble_eq_true rfl⟩ dX3_digitAt_2 ?_
  refine lv_istore_n (lv' := [(2, .int ((chQ T L q))), (0, .ref h), (1, .int q)]) hx hb dX3_digitAt_5 rfl hl (by decide) rfl (fun ls hl => ?_)
  refine lv_iload_n hx hb dX3_digitAt_6 rfl (lv_at hl 0 rfl) ?_
  refine lv_bipush (v := nI 48) hx hb dX3_digitAt_7 (by decide) ?_
  refine lv_icmp_lt (tgt := 25) hx hb dX3_digitAt_9 (by decide) (fun c9 => ?_) (fun c9 => ?_)
  · refine lv_iconst (v := -1) hx hb dX3_digitAt_25 (by decide) ?_
    exact rRetI hx hb hr hlocks (congrArg Value.int (by unfold dgQ; rw [if_pos c9])) dX3_digitAt_26
  · refine lv_iload_n hx hb dX3_digitAt_12 rfl (lv_at hl 0 rfl) ?_
    refine lv_bipush (v := nI 57) hx hb dX3_digitAt_13 (by decide) ?_
    refine lv_icmp_gt (tgt := 25) hx hb dX3_digitAt_15 (by decide) (fun c15 => ?_) (fun c15 => ?_)
    · refine lv_iconst (v := -1) hx hb dX3_digitAt_25 (by decide) ?_
      exact rRetI hx hb hr hlocks (congrArg Value.int (by unfold dgQ; rw [if_neg c9, if_pos c15])) dX3_digitAt_26
    · refine lv_iload_n hx hb dX3_digitAt_18 rfl (lv_at hl 0 rfl) ?_
      refine lv_bipush (v := nI 48) hx hb dX3_digitAt_19 (by decide) ?_
      refine lv_isub hx hb dX3_digitAt_21 ?_
      refine lv_goto (tgt := 26) hx hb dX3_digitAt_22 (by decide) ?_
      exact rRetI hx hb hr hlocks (congrArg Value.int (by unfold dgQ; rw [if_neg c9, if_neg c15])) dX3_digitAt_26

theorem jm1 (T : Nat → Nat) (L j : Nat) (hT : ∀ i, T i ≤ 255) (hL : L ≤ 80) (hj : j < 80) : dgQ T L (nI j - nI 1) = zI (if 0 < j then dd (cc T L (j - 1)) else 0) := by
  by_cases h : 0 < j
  · rw [pk_sub h, if_pos h, dgQ_nI hT (by omega) (by omega)]
  · rw [if_neg h, show j = 0 by omega, show nI 0 - nI 1 = -1 from by decide, dgQ_m1]

set_option maxHeartbeats 4000000 in
set_option maxRecDepth 100000 in
theorem c_X3_beginsToken (l : Launch) (D : va_G) (ca : Nat → ClassId) (h tx ip ic : Nat) (L c : Nat) (T : Nat → Nat) (j : Nat) (hL : L ≤ 80) (hj : j < 80) (hT : ∀ i, T i ≤ 255) : RD l D ca yX3_beginsToken wsX3_beginsToken 2 43 [(h, .inr (1, [.ref tx, .int (nI L), .ref ip, .ref ic, .int (nI c)])), (tx, .inl (ca 2, 80, .inl (rwN T)))] [.ref h, .int (nI j)] (.int (nI (bN (decide (bt T L j))))) := by
  refine RD.start (cc := cX3_beginsToken) (maxL := 3) (ret := (some .boolean)) (by decide) rfl (Nat.le_of_ble_eq_true rfl) ?_
  intro p_ e_ s_ m_ below_ meth_ c_ hx hb hml hr hlocks hown hts hP hK ls hl
  have hown : s_.vm.findClass RX3 = some m_.cls := hown
  have hl : lv_has ls 3 [(0, .ref h), (1, .int (nI j))] := hl
  have hinX30 : ∀ w ∈ wsX30, w ∈ wsX3_beginsToken := fun w h => List.mem_cons_of_mem _ (List.mem_append_right _ h)
  refine lv_aload_n hx hb dX3_beginsToken_0 rfl (lv_at hl 0 rfl) ?_
  refine lv_iload_n hx hb dX3_beginsToken_1 rfl (lv_at hl 1 rfl) ?_
  refine rdV (nL := 3) (ci := 1) (q0 := 0) (cq := (RX3, TX3, 5)) hx hb hml hown hts hK hP [.int (nI j)] [] (c_X3_digitAt l D ca h tx ip ic L c T (nI j) hL) gX3_beginsToken_X3_digitAt rfl ⟨rfl, qX3_digitAt⟩ ⟨Nat.le_of_ble_eq_true rfl, Nat.le_of_ble_eq_true rfl⟩ rfl rfl [0, 1] rfl rfl hl.1 (Nat.le_of_ble_eq_true rfl) ⟨Nat.le_of_ble_eq_true rfl, Nat.le_of_ble_eq_true rfl⟩ dX3_beginsToken_2 ?_
  rw [show ((dgQ T L (nI j))) = ((zI (dd (cc T L j)))) from (dgQ_nI hT (by omega) (by omega))]
  refine lv_if_lt (tgt := 22) hx hb dX3_beginsToken_5 (by decide) (fun c5 => ?_) (fun c5 => ?_)
  · rw [zI_lt (by have := dd_le (cc T L j); omega)] at c5
    refine lv_iconst (v := nI 0) hx hb dX3_beginsToken_22 (by decide) ?_
    refine lv_istore_n (lv' := [(2, .int (nI 0)), (0, .ref h), (1, .int (nI j))]) hx hb dX3_beginsToken_23 rfl hl (by decide) rfl (fun ls hl => ?_)
    refine lv_aload_n hx hb dX3_beginsToken_24 rfl (lv_at hl 1 rfl) ?_
    refine lv_iload_n hx hb dX3_beginsToken_25 rfl (lv_at hl 2 rfl) ?_
    refine rdV (nL := 3) (ci := 1) (q0 := 0) (cq := (RX3, TX3, 5)) hx hb hml hown hts hK hP [.int (nI j)] [] (c_X3_characterAt l D ca h tx ip ic L c T (nI j) hL) gX3_beginsToken_X3_characterAt rfl ⟨rfl, qX3_characterAt⟩ ⟨Nat.le_of_ble_eq_true rfl, Nat.le_of_ble_eq_true rfl⟩ rfl rfl [0, 1] rfl rfl hl.1 (Nat.le_of_ble_eq_true rfl) ⟨Nat.le_of_ble_eq_true rfl, Nat.le_of_ble_eq_true rfl⟩ dX3_beginsToken_26 ?_
    rw [show ((chQ T L (nI j))) = ((zI (cc T L j))) from (chQ_nI (by omega) (by omega))]
    refine lv_bipush (v := nI 32) hx hb dX3_beginsToken_29 (by decide) ?_
    refine lv_icmp_eq (tgt := 42) hx hb dX3_beginsToken_31 (by decide) (fun c31 => ?_) (fun c31 => ?_)
    · rw [zI_eq (by have := cc_le hT L j; omega) (by decide)] at c31
      refine lv_iconst (v := nI 0) hx hb dX3_beginsToken_42 (by decide) ?_
      exact rRetZ hx hb hr hlocks rfl (congrArg (fun z => Value.int (nI z)) (by symm; skip; first | exact bN_t ⟨c31, by rintro ⟨a, b, c⟩; first | exact a c5 | (rw [if_pos b] at c15; exact c c15)⟩ | exact bN_f (fun z => z.1 c31) | exact bN_f (fun z => z.2 ⟨c5, by by_cases b : 0 < j; exact b; (rw [if_neg b] at c15; exact absurd rfl c15), by by_cases b : 0 < j; (rw [if_pos b] at c15; exact c15); (rw [if_neg b] at c15; exact absurd rfl c15)⟩))) dX3_beginsToken_43
    · rw [zI_eq (by have := cc_le hT L j; omega) (by decide)] at c31
      refine lv_iload_n hx hb dX3_beginsToken_34 rfl (lv_at hl 0 rfl) ?_
      refine n_if_ne (tgt := 42) hx hb dX3_beginsToken_35 (by decide) (by decide) (fun q => absurd q (by decide)) (fun _ => ?_)
      refine lv_iconst (v := nI 1) hx hb dX3_beginsToken_38 (by decide) ?_
      refine lv_goto (tgt := 43) hx hb dX3_beginsToken_39 (by decide) ?_
      exact rRetZ hx hb hr hlocks rfl (congrArg (fun z => Value.int (nI z)) (by symm; skip; first | exact bN_t ⟨c31, by rintro ⟨a, b, c⟩; first | exact a c5 | (rw [if_pos b] at c15; exact c c15)⟩ | exact bN_f (fun z => z.1 c31) | exact bN_f (fun z => z.2 ⟨c5, by by_cases b : 0 < j; exact b; (rw [if_neg b] at c15; exact absurd rfl c15), by by_cases b : 0 < j; (rw [if_pos b] at c15; exact c15); (rw [if_neg b] at c15; exact absurd rfl c15)⟩))) dX3_beginsToken_43
  · rw [zI_lt (by have := dd_le (cc T L j); omega)] at c5
    refine lv_aload_n hx hb dX3_beginsToken_8 rfl (lv_at hl 0 rfl) ?_
    refine lv_iload_n hx hb dX3_beginsToken_9 rfl (lv_at hl 1 rfl) ?_
    refine lv_iconst (v := nI 1) hx hb dX3_beginsToken_10 (by decide) ?_
    refine lv_isub hx hb dX3_beginsToken_11 ?_
    refine rdV (nL := 3) (ci := 1) (q0 := 0) (cq := (RX3, TX3, 5)) hx hb hml hown hts hK hP [.int (((nI j) - (nI 1)))] [] (c_X3_digitAt l D ca h tx ip ic L c T (((nI j) - (nI 1))) hL) gX3_beginsToken_X3_digitAt rfl ⟨rfl, qX3_digitAt⟩ ⟨Nat.le_of_ble_eq_true rfl, Nat.le_of_ble_eq_true rfl⟩ rfl rfl [0, 1] rfl rfl hl.1 (Nat.le_of_ble_eq_true rfl) ⟨Nat.le_of_ble_eq_true rfl, Nat.le_of_ble_eq_true rfl⟩ dX3_beginsToken_12 ?_
    rw [show ((dgQ T L (((nI j) - (nI 1))))) = ((zI (if 0 < j then dd (cc T L (j - 1)) else 0))) from (jm1 T L j hT hL hj)]
    refine lv_if_lt (tgt := 22) hx hb dX3_beginsToken_15 (by decide) (fun c15 => ?_) (fun c15 => ?_)
    · rw [zI_lt (by have := dd_le (cc T L (j - 1)); split <;> omega)] at c15
      refine lv_iconst (v := nI 0) hx hb dX3_beginsToken_22 (by decide) ?_
      refine lv_istore_n (lv' := [(2, .int (nI 0)), (0, .ref h), (1, .int (nI j))]) hx hb dX3_beginsToken_23 rfl hl (by decide) rfl (fun ls hl => ?_)
      refine lv_aload_n hx hb dX3_beginsToken_24 rfl (lv_at hl 1 rfl) ?_
      refine lv_iload_n hx hb dX3_beginsToken_25 rfl (lv_at hl 2 rfl) ?_
      refine rdV (nL := 3) (ci := 1) (q0 := 0) (cq := (RX3, TX3, 5)) hx hb hml hown hts hK hP [.int (nI j)] [] (c_X3_characterAt l D ca h tx ip ic L c T (nI j) hL) gX3_beginsToken_X3_characterAt rfl ⟨rfl, qX3_characterAt⟩ ⟨Nat.le_of_ble_eq_true rfl, Nat.le_of_ble_eq_true rfl⟩ rfl rfl [0, 1] rfl rfl hl.1 (Nat.le_of_ble_eq_true rfl) ⟨Nat.le_of_ble_eq_true rfl, Nat.le_of_ble_eq_true rfl⟩ dX3_beginsToken_26 ?_
      rw [show ((chQ T L (nI j))) = ((zI (cc T L j))) from (chQ_nI (by omega) (by omega))]
      refine lv_bipush (v := nI 32) hx hb dX3_beginsToken_29 (by decide) ?_
      refine lv_icmp_eq (tgt := 42) hx hb dX3_beginsToken_31 (by decide) (fun c31 => ?_) (fun c31 => ?_)
      · rw [zI_eq (by have := cc_le hT L j; omega) (by decide)] at c31
        refine lv_iconst (v := nI 0) hx hb dX3_beginsToken_42 (by decide) ?_
        exact rRetZ hx hb hr hlocks rfl (congrArg (fun z => Value.int (nI z)) (by symm; skip; first | exact bN_t ⟨c31, by rintro ⟨a, b, c⟩; first | exact a c5 | (rw [if_pos b] at c15; exact c c15)⟩ | exact bN_f (fun z => z.1 c31) | exact bN_f (fun z => z.2 ⟨c5, by by_cases b : 0 < j; exact b; (rw [if_neg b] at c15; exact absurd rfl c15), by by_cases b : 0 < j; (rw [if_pos b] at c15; exact c15); (rw [if_neg b] at c15; exact absurd rfl c15)⟩))) dX3_beginsToken_43
      · rw [zI_eq (by have := cc_le hT L j; omega) (by decide)] at c31
        refine lv_iload_n hx hb dX3_beginsToken_34 rfl (lv_at hl 0 rfl) ?_
        refine n_if_ne (tgt := 42) hx hb dX3_beginsToken_35 (by decide) (by decide) (fun q => absurd q (by decide)) (fun _ => ?_)
        refine lv_iconst (v := nI 1) hx hb dX3_beginsToken_38 (by decide) ?_
        refine lv_goto (tgt := 43) hx hb dX3_beginsToken_39 (by decide) ?_
        exact rRetZ hx hb hr hlocks rfl (congrArg (fun z => Value.int (nI z)) (by symm; skip; first | exact bN_t ⟨c31, by rintro ⟨a, b, c⟩; first | exact a c5 | (rw [if_pos b] at c15; exact c c15)⟩ | exact bN_f (fun z => z.1 c31) | exact bN_f (fun z => z.2 ⟨c5, by by_cases b : 0 < j; exact b; (rw [if_neg b] at c15; exact absurd rfl c15), by by_cases b : 0 < j; (rw [if_pos b] at c15; exact c15); (rw [if_neg b] at c15; exact absurd rfl c15)⟩))) dX3_beginsToken_43
    · rw [zI_lt (by have := dd_le (cc T L (j - 1)); split <;> omega)] at c15
      refine lv_iconst (v := nI 1) hx hb dX3_beginsToken_18 (by decide) ?_
      refine lv_goto (tgt := 23) hx hb dX3_beginsToken_19 (by decide) ?_
      refine lv_istore_n (lv' := [(2, .int (nI 1)), (0, .ref h), (1, .int (nI j))]) hx hb dX3_beginsToken_23 rfl hl (by decide) rfl (fun ls hl => ?_)
      refine lv_aload_n hx hb dX3_beginsToken_24 rfl (lv_at hl 1 rfl) ?_
      refine lv_iload_n hx hb dX3_beginsToken_25 rfl (lv_at hl 2 rfl) ?_
      refine rdV (nL := 3) (ci := 1) (q0 := 0) (cq := (RX3, TX3, 5)) hx hb hml hown hts hK hP [.int (nI j)] [] (c_X3_characterAt l D ca h tx ip ic L c T (nI j) hL) gX3_beginsToken_X3_characterAt rfl ⟨rfl, qX3_characterAt⟩ ⟨Nat.le_of_ble_eq_true rfl, Nat.le_of_ble_eq_true rfl⟩ rfl rfl [0, 1] rfl rfl hl.1 (Nat.le_of_ble_eq_true rfl) ⟨Nat.le_of_ble_eq_true rfl, Nat.le_of_ble_eq_true rfl⟩ dX3_beginsToken_26 ?_
      rw [show ((chQ T L (nI j))) = ((zI (cc T L j))) from (chQ_nI (by omega) (by omega))]
      refine lv_bipush (v := nI 32) hx hb dX3_beginsToken_29 (by decide) ?_
      refine lv_icmp_eq (tgt := 42) hx hb dX3_beginsToken_31 (by decide) (fun c31 => ?_) (fun c31 => ?_)
      · rw [zI_eq (by have := cc_le hT L j; omega) (by decide)] at c31
        refine lv_iconst (v := nI 0) hx hb dX3_beginsToken_42 (by decide) ?_
        exact rRetZ hx hb hr hlocks rfl (congrArg (fun z => Value.int (nI z)) (by symm; skip; first | exact bN_t ⟨c31, by rintro ⟨a, b, c⟩; first | exact a c5 | (rw [if_pos b] at c15; exact c c15)⟩ | exact bN_f (fun z => z.1 c31) | exact bN_f (fun z => z.2 ⟨c5, by by_cases b : 0 < j; exact b; (rw [if_neg b] at c15; exact absurd rfl c15), by by_cases b : 0 < j; (rw [if_pos b] at c15; exact c15); (rw [if_neg b] at c15; exact absurd rfl c15)⟩))) dX3_beginsToken_43
      · rw [zI_eq (by have := cc_le hT L j; omega) (by decide)] at c31
        refine lv_iload_n hx hb dX3_beginsToken_34 rfl (lv_at hl 0 rfl) ?_
        refine n_if_ne (tgt := 42) hx hb dX3_beginsToken_35 (by decide) (by decide) (fun _ => ?_) (fun q => absurd q (by decide))
        refine lv_iconst (v := nI 0) hx hb dX3_beginsToken_42 (by decide) ?_
        exact rRetZ hx hb hr hlocks rfl (congrArg (fun z => Value.int (nI z)) (by symm; skip; first | exact bN_t ⟨c31, by rintro ⟨a, b, c⟩; first | exact a c5 | (rw [if_pos b] at c15; exact c c15)⟩ | exact bN_f (fun z => z.1 c31) | exact bN_f (fun z => z.2 ⟨c5, by by_cases b : 0 < j; exact b; (rw [if_neg b] at c15; exact absurd rfl c15), by by_cases b : 0 < j; (rw [if_pos b] at c15; exact c15); (rw [if_neg b] at c15; exact absurd rfl c15)⟩))) dX3_beginsToken_43

set_option maxHeartbeats 4000000 in
set_option maxRecDepth 100000 in
theorem c_X3_numberAt (l : Launch) (D : va_G) (ca : Nat → ClassId) (h tx ip ic : Nat) (L c : Nat) (T : Nat → Nat) (j : Nat) (hL : L ≤ 80) (hj : j < 80) (hT : ∀ i, T i ≤ 255) : RD l D ca yX3_numberAt wsX3_numberAt 2 43 [(h, .inr (1, [.ref tx, .int (nI L), .ref ip, .ref ic, .int (nI c)])), (tx, .inl (ca 2, 80, .inl (rwN T)))] [.ref h, .int (nI j)] (.int ((zI (num T L j)))) := by
  refine RD.start (cc := cX3_numberAt) (maxL := 4) (ret := (some .int)) (by decide) rfl (Nat.le_of_ble_eq_true rfl) ?_
  intro p_ e_ s_ m_ below_ meth_ c_ hx hb hml hr hlocks hown hts hP hK ls hl
  have hown : s_.vm.findClass RX3 = some m_.cls := hown
  have hl : lv_has ls 4 [(0, .ref h), (1, .int (nI j))] := hl
  have hinX30 : ∀ w ∈ wsX30, w ∈ wsX3_numberAt := fun w h => List.mem_cons_of_mem _ (List.mem_append_right _ h)
  refine lv_aload_n hx hb dX3_numberAt_0 rfl (lv_at hl 0 rfl) ?_
  refine lv_iload_n hx hb dX3_numberAt_1 rfl (lv_at hl 1 rfl) ?_
  refine rdV (nL := 4) (ci := 1) (q0 := 0) (cq := (RX3, TX3, 5)) hx hb hml hown hts hK hP [.int (nI j)] [] (c_X3_digitAt l D ca h tx ip ic L c T (nI j) hL) gX3_numberAt_X3_digitAt rfl ⟨rfl, qX3_digitAt⟩ ⟨Nat.le_of_ble_eq_true rfl, Nat.le_of_ble_eq_true rfl⟩ rfl rfl [0, 1] rfl rfl hl.1 (Nat.le_of_ble_eq_true rfl) ⟨Nat.le_of_ble_eq_true rfl, Nat.le_of_ble_eq_true rfl⟩ dX3_numberAt_2 ?_
  rw [show ((dgQ T L (nI j))) = ((zI (dd (cc T L j)))) from (dgQ_nI hT (by omega) (by omega))]
  refine lv_istore_n (lv' := [(2, .int ((zI (dd (cc T L j))))), (0, .ref h), (1, .int (nI j))]) hx hb dX3_numberAt_5 rfl hl (by decide) rfl (fun ls hl => ?_)
  refine lv_aload_n hx hb dX3_numberAt_6 rfl (lv_at hl 1 rfl) ?_
  refine lv_iload_n hx hb dX3_numberAt_7 rfl (lv_at hl 2 rfl) ?_
  refine lv_iconst (v := nI 1) hx hb dX3_numberAt_8 (by decide) ?_
  refine n_iadd hx hb dX3_numberAt_9 ?_
  refine rdV (nL := 4) (ci := 1) (q0 := 0) (cq := (RX3, TX3, 5)) hx hb hml hown hts hK hP [.int (nI (j + 1))] [] (c_X3_digitAt l D ca h tx ip ic L c T (nI (j + 1)) hL) gX3_numberAt_X3_digitAt rfl ⟨rfl, qX3_digitAt⟩ ⟨Nat.le_of_ble_eq_true rfl, Nat.le_of_ble_eq_true rfl⟩ rfl rfl [0, 1] rfl rfl hl.1 (Nat.le_of_ble_eq_true rfl) ⟨Nat.le_of_ble_eq_true rfl, Nat.le_of_ble_eq_true rfl⟩ dX3_numberAt_10 ?_
  rw [show ((dgQ T L (nI (j + 1)))) = ((zI (dd (cc T L (j + 1))))) from (dgQ_nI hT (by omega) (by omega))]
  refine lv_istore_n (lv' := [(3, .int ((zI (dd (cc T L (j + 1)))))), (2, .int ((zI (dd (cc T L j))))), (0, .ref h), (1, .int (nI j))]) hx hb dX3_numberAt_13 rfl hl (by decide) rfl (fun ls hl => ?_)
  refine lv_iload_n hx hb dX3_numberAt_14 rfl (lv_at hl 1 rfl) ?_
  refine lv_if_ge (tgt := 20) hx hb dX3_numberAt_15 (by decide) (fun c15 => ?_) (fun c15 => ?_)
  · rw [zI_ge (by have := dd_le (cc T L j); have := dd_le (cc T L (j + 1)); have := dd_le (cc T L (j + 2)); omega)] at c15
    refine lv_iload_n hx hb dX3_numberAt_20 rfl (lv_at hl 0 rfl) ?_
    refine lv_if_ge (tgt := 26) hx hb dX3_numberAt_21 (by decide) (fun c21 => ?_) (fun c21 => ?_)
    · rw [zI_ge (by have := dd_le (cc T L j); have := dd_le (cc T L (j + 1)); have := dd_le (cc T L (j + 2)); omega)] at c21
      refine lv_iload_n hx hb dX3_numberAt_26 rfl (lv_at hl 1 rfl) ?_
      refine lv_if_eq (tgt := 40) hx hb dX3_numberAt_27 (by decide) (fun c27 => ?_) (fun c27 => ?_)
      · rw [show (0 : Int32) = nI 0 from rfl, zI_eq (by have := dd_le (cc T L j); have := dd_le (cc T L (j + 1)); have := dd_le (cc T L (j + 2)); omega) (by decide)] at c27
        refine lv_iconst (v := -1) hx hb dX3_numberAt_40 (by decide) ?_
        exact rRetI hx hb hr hlocks (congrArg Value.int (by unfold num; rw [if_neg c15, if_neg c21, if_pos (by first | exact Or.inl (by omega) | exact Or.inr c37)]; rfl)) dX3_numberAt_41
      · rw [show (0 : Int32) = nI 0 from rfl, zI_eq (by have := dd_le (cc T L j); have := dd_le (cc T L (j + 1)); have := dd_le (cc T L (j + 2)); omega) (by decide)] at c27
        refine lv_aload_n hx hb dX3_numberAt_30 rfl (lv_at hl 2 rfl) ?_
        refine lv_iload_n hx hb dX3_numberAt_31 rfl (lv_at hl 3 rfl) ?_
        refine lv_iconst (v := nI 2) hx hb dX3_numberAt_32 (by decide) ?_
        refine n_iadd hx hb dX3_numberAt_33 ?_
        refine rdV (nL := 4) (ci := 1) (q0 := 0) (cq := (RX3, TX3, 5)) hx hb hml hown hts hK hP [.int (nI (j + 2))] [] (c_X3_digitAt l D ca h tx ip ic L c T (nI (j + 2)) hL) gX3_numberAt_X3_digitAt rfl ⟨rfl, qX3_digitAt⟩ ⟨Nat.le_of_ble_eq_true rfl, Nat.le_of_ble_eq_true rfl⟩ rfl rfl [0, 1] rfl rfl hl.1 (Nat.le_of_ble_eq_true rfl) ⟨Nat.le_of_ble_eq_true rfl, Nat.le_of_ble_eq_true rfl⟩ dX3_numberAt_34 ?_
        rw [show ((dgQ T L (nI (j + 2)))) = ((zI (dd (cc T L (j + 2))))) from (dgQ_nI hT (by omega) (by omega))]
        refine lv_if_lt (tgt := 42) hx hb dX3_numberAt_37 (by decide) (fun c37 => ?_) (fun c37 => ?_)
        · rw [zI_lt (by have := dd_le (cc T L j); have := dd_le (cc T L (j + 1)); have := dd_le (cc T L (j + 2)); omega)] at c37
          have h1 : 0 < dd (cc T L j) := by omega
          have h2 : 0 < dd (cc T L (j + 1)) := by omega
          refine lv_iload_n hx hb dX3_numberAt_42 rfl (lv_at hl 1 rfl) ?_
          refine lv_bipush (v := nI 10) hx hb dX3_numberAt_43 (by decide) ?_
          refine lv_imul hx hb dX3_numberAt_45 ?_
          refine lv_iload_n hx hb dX3_numberAt_46 rfl (lv_at hl 0 rfl) ?_
          refine lv_iadd hx hb dX3_numberAt_47 ?_
          exact rRetI hx hb hr hlocks (congrArg Value.int (by unfold num; rw [if_neg c15, if_neg c21, if_neg (by omega), zI_s, zI_p h1, zI_p h2, pk_mul, nI_add])) dX3_numberAt_48
        · rw [zI_lt (by have := dd_le (cc T L j); have := dd_le (cc T L (j + 1)); have := dd_le (cc T L (j + 2)); omega)] at c37
          refine lv_iconst (v := -1) hx hb dX3_numberAt_40 (by decide) ?_
          exact rRetI hx hb hr hlocks (congrArg Value.int (by unfold num; rw [if_neg c15, if_neg c21, if_pos (by first | exact Or.inl (by omega) | exact Or.inr c37)]; rfl)) dX3_numberAt_41
    · rw [zI_ge (by have := dd_le (cc T L j); have := dd_le (cc T L (j + 1)); have := dd_le (cc T L (j + 2)); omega), Decidable.not_not] at c21
      refine lv_iload_n hx hb dX3_numberAt_24 rfl (lv_at hl 1 rfl) ?_
      exact rRetI hx hb hr hlocks (congrArg Value.int (by unfold num; rw [if_neg c15, if_pos c21])) dX3_numberAt_25
  · rw [zI_ge (by have := dd_le (cc T L j); have := dd_le (cc T L (j + 1)); have := dd_le (cc T L (j + 2)); omega), Decidable.not_not] at c15
    refine lv_iconst (v := -1) hx hb dX3_numberAt_18 (by decide) ?_
    exact rRetI hx hb hr hlocks (congrArg Value.int (by unfold num; rw [if_pos c15]; rfl)) dX3_numberAt_19

set_option maxHeartbeats 4000000 in
set_option maxRecDepth 100000 in
theorem c_X3_addItem (l : Launch) (D : va_G) (ca : Nat → ClassId) (h tx ip ic : Nat) (L c : Nat) (T P K : Nat → Nat) (p : Nat) (hc : c < 40) : UP l D ca yX3_addItem wsX3_addItem 0 0 0 0 [(h, .inr (1, [.ref tx, .int (nI L), .ref ip, .ref ic, .int (nI c)])), (tx, .inl (ca 2, 80, .inl (rwN T))), (ip, .inl (ca 0, 40, .inl (rwN P))), (ic, .inl (ca 0, 40, .inl (rwN K)))] [.ref h, .int (nI p)] (one (some (.int (nI 1))) [(h, .inr (1, [.ref tx, .int (nI L), .ref ip, .ref ic, .int (nI (c + 1))])), (tx, .inl (ca 2, 80, .inl (rwN T))), (ip, .inl (ca 0, 40, .inl (rwN (va_up P c p)))), (ic, .inl (ca 0, 40, .inl (rwN (va_up K c 1))))]) := by
  refine UP.start (cc := cX3_addItem) (maxL := 2) (ret := (some .boolean)) (by decide) rfl (Nat.le_of_ble_eq_true rfl) ?_
  intro p_ e_ s_ m_ below_ meth_ c_ A hx hb hml hr hlocks hin hown hts hK hA hP hD hS ls hl
  have hown : s_.vm.findClass RX3 = some m_.cls := hown
  have hl : lv_has ls 2 [(0, .ref h), (1, .int (nI p))] := hl
  have hinX30 : ∀ w ∈ wsX30, w ∈ wsX3_addItem := fun w h => List.mem_cons_of_mem _ (List.mem_append_right _ h)
  refine lv_aload_n hx hb dX3_addItem_0 rfl (lv_at hl 0 rfl) ?_
  refine va_get (D := D) (ci := 1) (v := .int (nI c)) (C := RX3) (T := TX3) (N := 5) hx hb hts hinX30 hown hK.1 hP 0 rfl rfl 4 (by decide) (hts (.fieldLink RX3 28 "RenamingGrid$Schedule" "items" "I") (List.mem_of_getElem? (i := 1) rfl)) (fun _ h9 => h9) rfl dX3_addItem_1 ?_
  refine lv_aload_n hx hb dX3_addItem_4 rfl (lv_at hl 0 rfl) ?_
  refine va_get (D := D) (ci := 1) (v := .ref ip) (C := RX3) (T := TX3) (N := 5) hx hb hts hinX30 hown hK.1 hP 0 rfl rfl 2 (by decide) (hts (.fieldLink RX3 13 "RenamingGrid$Schedule" "itemProcesses" "[I") (List.mem_of_getElem? (i := 2) rfl)) (fun _ h9 => h9) rfl dX3_addItem_5 ?_
  refine va_alen (D := D) (v := nI 40) hx hb hK.1 hP 2 0 rfl rfl rfl dX3_addItem_8 ?_
  refine n_ic_ge (tgt := 24) hx hb dX3_addItem_9 (by decide) (by omega) (by decide) (fun c9 => absurd c9 (by omega)) (fun c9 => ?_)
  refine lv_aload_n hx hb dX3_addItem_12 rfl (lv_at hl 0 rfl) ?_
  refine va_get (D := D) (ci := 1) (v := .int (nI c)) (C := RX3) (T := TX3) (N := 5) hx hb hts hinX30 hown hK.1 hP 0 rfl rfl 4 (by decide) (hts (.fieldLink RX3 28 "RenamingGrid$Schedule" "items" "I") (List.mem_of_getElem? (i := 1) rfl)) (fun _ h9 => h9) rfl dX3_addItem_13 ?_
  refine lv_aload_n hx hb dX3_addItem_16 rfl (lv_at hl 0 rfl) ?_
  refine va_get (D := D) (ci := 1) (v := .ref ic) (C := RX3) (T := TX3) (N := 5) hx hb hts hinX30 hown hK.1 hP 0 rfl rfl 3 (by decide) (hts (.fieldLink RX3 17 "RenamingGrid$Schedule" "itemCounts" "[I") (List.mem_of_getElem? (i := 3) rfl)) (fun _ h9 => h9) rfl dX3_addItem_17 ?_
  refine va_alen (D := D) (v := nI 40) hx hb hK.1 hP 3 0 rfl rfl rfl dX3_addItem_20 ?_
  refine n_ic_lt (tgt := 26) hx hb dX3_addItem_21 (by decide) (by omega) (by decide) (fun c21 => ?_) (fun c21 => absurd c21 (by omega))
  refine lv_aload_n hx hb dX3_addItem_26 rfl (lv_at hl 0 rfl) ?_
  refine va_get (D := D) (ci := 1) (v := .ref ip) (C := RX3) (T := TX3) (N := 5) hx hb hts hinX30 hown hK.1 hP 0 rfl rfl 2 (by decide) (hts (.fieldLink RX3 13 "RenamingGrid$Schedule" "itemProcesses" "[I") (List.mem_of_getElem? (i := 2) rfl)) (fun _ h9 => h9) rfl dX3_addItem_27 ?_
  refine lv_aload_n hx hb dX3_addItem_30 rfl (lv_at hl 0 rfl) ?_
  refine va_get (D := D) (ci := 1) (v := .int (nI c)) (C := RX3) (T := TX3) (N := 5) hx hb hts hinX30 hown hK.1 hP 0 rfl rfl 4 (by decide) (hts (.fieldLink RX3 28 "RenamingGrid$Schedule" "items" "I") (List.mem_of_getElem? (i := 1) rfl)) (fun _ h9 => h9) rfl dX3_addItem_31 ?_
  refine lv_iload_n hx hb dX3_addItem_34 rfl (lv_at hl 1 rfl) ?_
  refine n_iast (D := D) (ca := ca) hx hb hK.1 hP hD hS 2 (f := (rwN P)) rfl (by omega) (by decide) dX3_addItem_35 (fun H locs hP hD hS => ?_)
  have hP : va_P D vwCl [(h, .inr (1, [.ref tx, .int (nI L), .ref ip, .ref ic, .int (nI c)])), (tx, .inl (ca 2, 80, .inl (rwN T))), (ip, .inl (ca 0, 40, .inl (upd (rwN P) c (nI p)))), (ic, .inl (ca 0, 40, .inl (rwN K)))] H := hP
  have hD : va_D A [(h, .inr (1, [.ref tx, .int (nI L), .ref ip, .ref ic, .int (nI c)])), (tx, .inl (ca 2, 80, .inl (rwN T))), (ip, .inl (ca 0, 40, .inl (upd (rwN P) c (nI p)))), (ic, .inl (ca 0, 40, .inl (rwN K)))] := hD
  rw [rwN_up] at hP hD
  refine lv_aload_n hx hb dX3_addItem_36 rfl (lv_at hl 0 rfl) ?_
  refine va_get (D := D) (ci := 1) (v := .ref ic) (C := RX3) (T := TX3) (N := 5) hx hb hts hinX30 hown hK.1 hP 0 rfl rfl 3 (by decide) (hts (.fieldLink RX3 17 "RenamingGrid$Schedule" "itemCounts" "[I") (List.mem_of_getElem? (i := 3) rfl)) (fun _ h9 => h9) rfl dX3_addItem_37 ?_
  refine lv_aload_n hx hb dX3_addItem_40 rfl (lv_at hl 0 rfl) ?_
  refine va_get (D := D) (ci := 1) (v := .int (nI c)) (C := RX3) (T := TX3) (N := 5) hx hb hts hinX30 hown hK.1 hP 0 rfl rfl 4 (by decide) (hts (.fieldLink RX3 28 "RenamingGrid$Schedule" "items" "I") (List.mem_of_getElem? (i := 1) rfl)) (fun _ h9 => h9) rfl dX3_addItem_41 ?_
  refine lv_iconst (v := nI 1) hx hb dX3_addItem_44 (by decide) ?_
  refine n_iast (D := D) (ca := ca) hx hb hK.1 hP hD hS 3 (f := (rwN K)) rfl (by omega) (by decide) dX3_addItem_45 (fun H locs hP hD hS => ?_)
  have hP : va_P D vwCl [(h, .inr (1, [.ref tx, .int (nI L), .ref ip, .ref ic, .int (nI c)])), (tx, .inl (ca 2, 80, .inl (rwN T))), (ip, .inl (ca 0, 40, .inl (rwN (va_up P c p)))), (ic, .inl (ca 0, 40, .inl (upd (rwN K) c (nI 1))))] H := hP
  have hD : va_D A [(h, .inr (1, [.ref tx, .int (nI L), .ref ip, .ref ic, .int (nI c)])), (tx, .inl (ca 2, 80, .inl (rwN T))), (ip, .inl (ca 0, 40, .inl (rwN (va_up P c p)))), (ic, .inl (ca 0, 40, .inl (upd (rwN K) c (nI 1))))] := hD
  rw [rwN_up] at hP hD
  refine lv_aload_n hx hb dX3_addItem_46 rfl (lv_at hl 0 rfl) ?_
  refine lv_dup hx hb dX3_addItem_47 rfl ?_
  refine va_get (D := D) (ci := 1) (v := .int (nI c)) (C := RX3) (T := TX3) (N := 5) hx hb hts hinX30 hown hK.1 hP 0 rfl rfl 4 (by decide) (hts (.fieldLink RX3 28 "RenamingGrid$Schedule" "items" "I") (List.mem_of_getElem? (i := 1) rfl)) (fun _ h9 => h9) rfl dX3_addItem_48 ?_
  refine lv_iconst (v := nI 1) hx hb dX3_addItem_51 (by decide) ?_
  refine n_iadd hx hb dX3_addItem_52 ?_
  refine va_put (D := D) (ci := 1) (v := .int (nI (c + 1))) (ty := tyX3 4) (C := RX3) (T := TX3) (N := 5) hx hb hts hinX30 tyX3 tyX3_ok nmX3 hown hK.1 hP hD hS 0 rfl rfl 4 (by decide) (hts (.fieldLink RX3 28 "RenamingGrid$Schedule" "items" "I") (List.mem_of_getElem? (i := 1) rfl)) (fun _ h9 => h9) rfl (tyX3_ok 4 (by decide)) rfl rfl (Nat.le_of_ble_eq_true rfl) dX3_addItem_53 (fun H locs hP hD hS => ?_)
  have hP : va_P D vwCl [(h, .inr (1, [.ref tx, .int (nI L), .ref ip, .ref ic, .int (nI (c + 1))])), (tx, .inl (ca 2, 80, .inl (rwN T))), (ip, .inl (ca 0, 40, .inl (rwN (va_up P c p)))), (ic, .inl (ca 0, 40, .inl (rwN (va_up K c 1))))] H := hP
  have hD : va_D A [(h, .inr (1, [.ref tx, .int (nI L), .ref ip, .ref ic, .int (nI (c + 1))])), (tx, .inl (ca 2, 80, .inl (rwN T))), (ip, .inl (ca 0, 40, .inl (rwN (va_up P c p)))), (ic, .inl (ca 0, 40, .inl (rwN (va_up K c 1))))] := hD
  refine lv_iconst (v := nI 1) hx hb dX3_addItem_56 (by decide) ?_
  exact uRetZ hx hb hr hlocks hK hP hD hS rfl ⟨rfl, rfl⟩ (Nat.le_of_ble_eq_true rfl) (Nat.le_of_ble_eq_true rfl) dX3_addItem_57

set_option maxHeartbeats 4000000 in
set_option maxRecDepth 100000 in
theorem c_X3_setCount (l : Launch) (D : va_G) (ca : Nat → ClassId) (h tx ip ic : Nat) (L c : Nat) (T P K : Nat → Nat) (k : Nat) (hc : 1 ≤ c ∧ c ≤ 40) : UP l D ca yX3_setCount wsX3_setCount 0 0 0 0 [(h, .inr (1, [.ref tx, .int (nI L), .ref ip, .ref ic, .int (nI c)])), (tx, .inl (ca 2, 80, .inl (rwN T))), (ip, .inl (ca 0, 40, .inl (rwN P))), (ic, .inl (ca 0, 40, .inl (rwN K)))] [.ref h, .int (nI k)] (one (some (.int (nI 1))) [(h, .inr (1, [.ref tx, .int (nI L), .ref ip, .ref ic, .int (nI c)])), (tx, .inl (ca 2, 80, .inl (rwN T))), (ip, .inl (ca 0, 40, .inl (rwN P))), (ic, .inl (ca 0, 40, .inl (rwN (va_up K (c - 1) k))))]) := by
  refine UP.start (cc := cX3_setCount) (maxL := 2) (ret := (some .boolean)) (by decide) rfl (Nat.le_of_ble_eq_true rfl) ?_
  intro p_ e_ s_ m_ below_ meth_ c_ A hx hb hml hr hlocks hin hown hts hK hA hP hD hS ls hl
  have hown : s_.vm.findClass RX3 = some m_.cls := hown
  have hl : lv_has ls 2 [(0, .ref h), (1, .int (nI k))] := hl
  have hinX30 : ∀ w ∈ wsX30, w ∈ wsX3_setCount := fun w h => List.mem_cons_of_mem _ (List.mem_append_right _ h)
  refine lv_aload_n hx hb dX3_setCount_0 rfl (lv_at hl 0 rfl) ?_
  refine va_get (D := D) (ci := 1) (v := .int (nI c)) (C := RX3) (T := TX3) (N := 5) hx hb hts hinX30 hown hK.1 hP 0 rfl rfl 4 (by decide) (hts (.fieldLink RX3 28 "RenamingGrid$Schedule" "items" "I") (List.mem_of_getElem? (i := 1) rfl)) (fun _ h9 => h9) rfl dX3_setCount_1 ?_
  refine lv_iconst (v := nI 1) hx hb dX3_setCount_4 (by decide) ?_
  refine n_ic_lt (tgt := 20) hx hb dX3_setCount_5 (by decide) (by omega) (by decide) (fun c5 => absurd c5 (by omega)) (fun c5 => ?_)
  refine lv_aload_n hx hb dX3_setCount_8 rfl (lv_at hl 0 rfl) ?_
  refine va_get (D := D) (ci := 1) (v := .int (nI c)) (C := RX3) (T := TX3) (N := 5) hx hb hts hinX30 hown hK.1 hP 0 rfl rfl 4 (by decide) (hts (.fieldLink RX3 28 "RenamingGrid$Schedule" "items" "I") (List.mem_of_getElem? (i := 1) rfl)) (fun _ h9 => h9) rfl dX3_setCount_9 ?_
  refine lv_aload_n hx hb dX3_setCount_12 rfl (lv_at hl 0 rfl) ?_
  refine va_get (D := D) (ci := 1) (v := .ref ic) (C := RX3) (T := TX3) (N := 5) hx hb hts hinX30 hown hK.1 hP 0 rfl rfl 3 (by decide) (hts (.fieldLink RX3 17 "RenamingGrid$Schedule" "itemCounts" "[I") (List.mem_of_getElem? (i := 2) rfl)) (fun _ h9 => h9) rfl dX3_setCount_13 ?_
  refine va_alen (D := D) (v := nI 40) hx hb hK.1 hP 3 0 rfl rfl rfl dX3_setCount_16 ?_
  refine n_ic_le (tgt := 22) hx hb dX3_setCount_17 (by decide) (by omega) (by decide) (fun c17 => ?_) (fun c17 => absurd c17 (by omega))
  refine lv_aload_n hx hb dX3_setCount_22 rfl (lv_at hl 0 rfl) ?_
  refine va_get (D := D) (ci := 1) (v := .ref ic) (C := RX3) (T := TX3) (N := 5) hx hb hts hinX30 hown hK.1 hP 0 rfl rfl 3 (by decide) (hts (.fieldLink RX3 17 "RenamingGrid$Schedule" "itemCounts" "[I") (List.mem_of_getElem? (i := 2) rfl)) (fun _ h9 => h9) rfl dX3_setCount_23 ?_
  refine lv_aload_n hx hb dX3_setCount_26 rfl (lv_at hl 0 rfl) ?_
  refine va_get (D := D) (ci := 1) (v := .int (nI c)) (C := RX3) (T := TX3) (N := 5) hx hb hts hinX30 hown hK.1 hP 0 rfl rfl 4 (by decide) (hts (.fieldLink RX3 28 "RenamingGrid$Schedule" "items" "I") (List.mem_of_getElem? (i := 1) rfl)) (fun _ h9 => h9) rfl dX3_setCount_27 ?_
  refine lv_iconst (v := nI 1) hx hb dX3_setCount_30 (by decide) ?_
  refine n_isub hx hb (by omega) dX3_setCount_31 ?_
  refine lv_iload_n hx hb dX3_setCount_32 rfl (lv_at hl 1 rfl) ?_
  refine n_iast (D := D) (ca := ca) hx hb hK.1 hP hD hS 3 (f := (rwN K)) rfl (by omega) (by decide) dX3_setCount_33 (fun H locs hP hD hS => ?_)
  have hP : va_P D vwCl [(h, .inr (1, [.ref tx, .int (nI L), .ref ip, .ref ic, .int (nI c)])), (tx, .inl (ca 2, 80, .inl (rwN T))), (ip, .inl (ca 0, 40, .inl (rwN P))), (ic, .inl (ca 0, 40, .inl (upd (rwN K) (c - 1) (nI k))))] H := hP
  have hD : va_D A [(h, .inr (1, [.ref tx, .int (nI L), .ref ip, .ref ic, .int (nI c)])), (tx, .inl (ca 2, 80, .inl (rwN T))), (ip, .inl (ca 0, 40, .inl (rwN P))), (ic, .inl (ca 0, 40, .inl (upd (rwN K) (c - 1) (nI k))))] := hD
  rw [rwN_up] at hP hD
  refine lv_iconst (v := nI 1) hx hb dX3_setCount_34 (by decide) ?_
  exact uRetZ hx hb hr hlocks hK hP hD hS rfl ⟨rfl, rfl⟩ (Nat.le_of_ble_eq_true rfl) (Nat.le_of_ble_eq_true rfl) dX3_setCount_35

theorem zI_ltn {x y : Nat} (hx : x < 2 ^ 30) (hy : y < 2 ^ 30) : zI x < nI y ↔ x < y + 1 := by
  by_cases h : x = 0
  · subst h
    exact ⟨fun _ => by omega, fun _ => by rw [zI_0, Int32.lt_iff_toInt_lt, nI_toInt (by omega)]; have : (-1 : Int32).toInt = -1 := by decide
                                          omega⟩
  · rw [zI_p (by omega), nI_ltI (by omega) (by omega)]
    omega

set_option maxHeartbeats 4000000 in
set_option maxRecDepth 100000 in
theorem c_X3_afterToken (l : Launch) (D : va_G) (ca : Nat → ClassId) (h tx ip ic : Nat) (L c : Nat) (T P K : Nat → Nat) (E j n : Nat) (hE : E ≤ 3) (hL : L ≤ 80) (hj : j < 80) (hT : ∀ i, T i ≤ 255) (hn : n ≤ 3) (hc0 : E = 0 → c < 40) (hc2 : E = 2 → 1 ≤ c ∧ c ≤ 40) : UP l D ca yX3_afterToken wsX3_afterToken 3 66 0 0 [(h, .inr (1, [.ref tx, .int (nI L), .ref ip, .ref ic, .int (nI c)])), (tx, .inl (ca 2, 80, .inl (rwN T))), (ip, .inl (ca 0, 40, .inl (rwN P))), (ic, .inl (ca 0, 40, .inl (rwN K)))] [.ref h, .int (nI E), .int (nI j), .int (nI n)] (one (some (.int (nI (aft T L n E j (c, P, K)).1))) [(h, .inr (1, [.ref tx, .int (nI L), .ref ip, .ref ic, .int (nI ((aft T L n E j (c, P, K)).2.1))])), (tx, .inl (ca 2, 80, .inl (rwN T))), (ip, .inl (ca 0, 40, .inl (rwN ((aft T L n E j (c, P, K)).2.2.1)))), (ic, .inl (ca 0, 40, .inl (rwN ((aft T L n E j (c, P, K)).2.2.2))))]) := by
  refine UP.start (cc := cX3_afterToken) (maxL := 6) (ret := (some .int)) (by decide) rfl (Nat.le_of_ble_eq_true rfl) ?_
  intro p_ e_ s_ m_ below_ meth_ c_ A hx hb hml hr hlocks hin hown hts hK hA hP hD hS ls hl
  have hown : s_.vm.findClass RX3 = some m_.cls := hown
  have hl : lv_has ls 6 [(0, .ref h), (1, .int (nI E)), (2, .int (nI j)), (3, .int (nI n))] := hl
  have hinX30 : ∀ w ∈ wsX30, w ∈ wsX3_afterToken := fun w h => List.mem_cons_of_mem _ (List.mem_append_right _ h)
  refine lv_aload_n hx hb dX3_afterToken_0 rfl (lv_at hl 0 rfl) ?_
  refine lv_iload_n hx hb dX3_afterToken_1 rfl (lv_at hl 2 rfl) ?_
  refine rdV (nL := 6) (ci := 1) (q0 := 0) (cq := (RX3, TX3, 5)) hx hb hml hown hts hK hP [.int (nI j)] [] (c_X3_numberAt l D ca h tx ip ic L c T j hL hj hT) gX3_afterToken_X3_numberAt rfl ⟨rfl, qX3_numberAt⟩ ⟨Nat.le_of_ble_eq_true rfl, Nat.le_of_ble_eq_true rfl⟩ rfl rfl [0, 1] rfl rfl hl.1 (Nat.le_of_ble_eq_true rfl) ⟨Nat.le_of_ble_eq_true rfl, Nat.le_of_ble_eq_true rfl⟩ dX3_afterToken_2 ?_
  refine lv_istore (lv' := [(4, .int ((zI (num T L j)))), (0, .ref h), (1, .int (nI E)), (2, .int (nI j)), (3, .int (nI n))]) hx hb dX3_afterToken_5 hl (by decide) rfl (fun ls hl => ?_)
  refine lv_aload_n hx hb dX3_afterToken_7 rfl (lv_at hl 1 rfl) ?_
  refine lv_iload_n hx hb dX3_afterToken_8 rfl (lv_at hl 3 rfl) ?_
  refine rdV (nL := 6) (ci := 1) (q0 := 0) (cq := (RX3, TX3, 5)) hx hb hml hown hts hK hP [.int (nI j)] [] (c_X3_characterAt l D ca h tx ip ic L c T (nI j) hL) gX3_afterToken_X3_characterAt rfl ⟨rfl, qX3_characterAt⟩ ⟨Nat.le_of_ble_eq_true rfl, Nat.le_of_ble_eq_true rfl⟩ rfl rfl [0, 1] rfl rfl hl.1 (Nat.le_of_ble_eq_true rfl) ⟨Nat.le_of_ble_eq_true rfl, Nat.le_of_ble_eq_true rfl⟩ dX3_afterToken_9 ?_
  rw [show ((chQ T L (nI j))) = ((zI (cc T L j))) from (chQ_nI (by omega) (by omega))]
  refine lv_istore (lv' := [(5, .int ((zI (cc T L j)))), (4, .int ((zI (num T L j)))), (0, .ref h), (1, .int (nI E)), (2, .int (nI j)), (3, .int (nI n))]) hx hb dX3_afterToken_12 hl (by decide) rfl (fun ls hl => ?_)
  refine lv_iload_n hx hb dX3_afterToken_14 rfl (lv_at hl 3 rfl) ?_
  rcases (show E = 0 ∨ E = 1 ∨ E = 2 ∨ E = 3 by omega) with rfl | rfl | rfl | rfl
  · refine lv_tableIn (tgt := 40) hx hb dX3_afterToken_15 (by decide) (by decide) rfl (by decide) ?_
    refine lv_iload hx hb dX3_afterToken_40 (lv_at hl 1 rfl) ?_
    refine lv_if_lt (tgt := 64) hx hb dX3_afterToken_42 (by decide) (fun c42 => ?_) (fun c42 => ?_)
    · rw [zI_lt (by have := num_le T L j; omega)] at c42
      refine lv_iconst (v := nI 4) hx hb dX3_afterToken_64 (by decide) ?_
      have ha : aft T L n 0 j (c, P, K) = (4, c, P, K) := by unfold aft; rw [if_pos rfl, if_neg (by omega)]
      exact uRetI hx hb hr hlocks hK hP hD hS (by rw [ha]; exact ⟨rfl, rfl⟩) (Nat.le_of_ble_eq_true rfl) (Nat.le_of_ble_eq_true rfl) dX3_afterToken_65
    · rw [zI_lt (by have := num_le T L j; omega)] at c42
      have hz42 : zI (num T L j) = nI (num T L j - 1) := zI_p (by omega)
      rw [hz42] at hl
      refine lv_iload hx hb dX3_afterToken_45 (lv_at hl 1 rfl) ?_
      refine lv_iload_n hx hb dX3_afterToken_47 rfl (lv_at hl 5 rfl) ?_
      refine n_ic_ge (tgt := 64) hx hb dX3_afterToken_48 (by decide) (by have := num_le T L j; omega) (by have := num_le T L j; omega) (fun c48 => ?_) (fun c48 => ?_)
      · refine lv_iconst (v := nI 4) hx hb dX3_afterToken_64 (by decide) ?_
        have ha : aft T L n 0 j (c, P, K) = (4, c, P, K) := by unfold aft; rw [if_pos rfl, if_neg (by omega)]
        exact uRetI hx hb hr hlocks hK hP hD hS (by rw [ha]; exact ⟨rfl, rfl⟩) (Nat.le_of_ble_eq_true rfl) (Nat.le_of_ble_eq_true rfl) dX3_afterToken_65
      · have hnz : num T L j ≠ 0 := by omega
        have hnn : num T L j ≤ n := by omega
        refine lv_aload_n hx hb dX3_afterToken_51 rfl (lv_at hl 2 rfl) ?_
        refine lv_iload hx hb dX3_afterToken_52 (lv_at hl 1 rfl) ?_
        refine uV (nL := 6) (wr := []) (ci := 1) (q0 := 0) (cq := (RX3, TX3, 5)) hx hb hml hown hts hK hA hP hD hS [.int (nI (num T L j - 1))] [] (c_X3_addItem l D ca h tx ip ic L c T P K (num T L j - 1) (hc0 rfl)) gX3_afterToken_X3_addItem rfl ⟨rfl, qX3_addItem⟩ ⟨Nat.le_of_ble_eq_true rfl, Nat.le_of_ble_eq_true rfl⟩ rfl rfl [0, 1, 2, 3] [] rfl rfl (by decide) (by decide) rfl hl.1 (Nat.le_of_ble_eq_true rfl) ⟨Nat.le_of_ble_eq_true rfl, Nat.le_of_ble_eq_true rfl⟩ dX3_afterToken_54 (oneK (wsN := [(h, .inr (1, [.ref tx, .int (nI L), .ref ip, .ref ic, .int (nI (c + 1))])), (tx, .inl (ca 2, 80, .inl (rwN T))), (ip, .inl (ca 0, 40, .inl (rwN (va_up P c (num T L j - 1))))), (ic, .inl (ca 0, 40, .inl (rwN (va_up K c 1))))]) [0, 1, 2, 3] (by decide) rfl (st1 := [.int (nI 1)]) rfl 0 0 rfl rfl (fun H locs hP hD hS => ?_))
        refine n_if_eq (tgt := 64) hx hb dX3_afterToken_57 (by decide) (by decide) (fun q => absurd q (by decide)) (fun _ => ?_)
        refine lv_iconst (v := nI 1) hx hb dX3_afterToken_60 (by decide) ?_
        refine lv_goto (tgt := 65) hx hb dX3_afterToken_61 (by decide) ?_
        have ha : aft T L n 0 j (c, P, K) = (1, c + 1, va_up P c (num T L j - 1), va_up K c 1) := by unfold aft; rw [if_pos rfl, if_pos ⟨hnz, hnn⟩]
        exact uRetI hx hb hr hlocks hK hP hD hS (by rw [ha]; exact ⟨rfl, rfl⟩) (Nat.le_of_ble_eq_true rfl) (Nat.le_of_ble_eq_true rfl) dX3_afterToken_65
  · refine lv_tableIn (tgt := 66) hx hb dX3_afterToken_15 (by decide) (by decide) rfl (by decide) ?_
    refine lv_iload hx hb dX3_afterToken_66 (lv_at hl 0 rfl) ?_
    refine lv_bipush (v := nI 42) hx hb dX3_afterToken_68 (by decide) ?_
    refine lv_icmp_ne (tgt := 75) hx hb dX3_afterToken_70 (by decide) (fun c70 => ?_) (fun c70 => ?_)
    · rw [zI_eq (by have := cc_le hT L j; omega) (by decide)] at c70
      refine lv_iload hx hb dX3_afterToken_75 (lv_at hl 0 rfl) ?_
      refine lv_bipush (v := nI 59) hx hb dX3_afterToken_77 (by decide) ?_
      refine lv_icmp_ne (tgt := 86) hx hb dX3_afterToken_79 (by decide) (fun c79 => ?_) (fun c79 => ?_)
      · rw [zI_eq (by have := cc_le hT L j; omega) (by decide)] at c79
        refine lv_iconst (v := nI 4) hx hb dX3_afterToken_86 (by decide) ?_
        have ha : aft T L n 1 j (c, P, K) = (4, c, P, K) := by unfold aft; rw [if_neg (by decide), if_pos rfl, if_neg (by omega), if_neg (by omega)]
        exact uRetI hx hb hr hlocks hK hP hD hS (by rw [ha]; exact ⟨rfl, rfl⟩) (Nat.le_of_ble_eq_true rfl) (Nat.le_of_ble_eq_true rfl) dX3_afterToken_87
      · rw [zI_eq (by have := cc_le hT L j; omega) (by decide)] at c79
        refine lv_iconst (v := nI 0) hx hb dX3_afterToken_82 (by decide) ?_
        refine lv_goto (tgt := 87) hx hb dX3_afterToken_83 (by decide) ?_
        have ha : aft T L n 1 j (c, P, K) = (0, c, P, K) := by unfold aft; rw [if_neg (by decide), if_pos rfl, if_neg (by omega), if_pos (by omega)]
        exact uRetI hx hb hr hlocks hK hP hD hS (by rw [ha]; exact ⟨rfl, rfl⟩) (Nat.le_of_ble_eq_true rfl) (Nat.le_of_ble_eq_true rfl) dX3_afterToken_87
    · rw [zI_eq (by have := cc_le hT L j; omega) (by decide)] at c70
      refine lv_iconst (v := nI 2) hx hb dX3_afterToken_73 (by decide) ?_
      have ha : aft T L n 1 j (c, P, K) = (2, c, P, K) := by unfold aft; rw [if_neg (by decide), if_pos rfl, if_pos (by omega)]
      exact uRetI hx hb hr hlocks hK hP hD hS (by rw [ha]; exact ⟨rfl, rfl⟩) (Nat.le_of_ble_eq_true rfl) (Nat.le_of_ble_eq_true rfl) dX3_afterToken_74
  · refine lv_tableIn (tgt := 88) hx hb dX3_afterToken_15 (by decide) (by decide) rfl (by decide) ?_
    refine lv_iload hx hb dX3_afterToken_88 (lv_at hl 1 rfl) ?_
    refine lv_iconst (v := nI 1) hx hb dX3_afterToken_90 (by decide) ?_
    refine lv_icmp_lt (tgt := 114) hx hb dX3_afterToken_91 (by decide) (fun c91 => ?_) (fun c91 => ?_)
    · rw [zI_ltn (by have := num_le T L j; omega) (by decide)] at c91
      refine lv_iconst (v := nI 4) hx hb dX3_afterToken_114 (by decide) ?_
      have ha : aft T L n 2 j (c, P, K) = (4, c, P, K) := by unfold aft; rw [if_neg (by decide), if_neg (by decide), if_pos rfl, if_neg (by omega)]
      exact uRetI hx hb hr hlocks hK hP hD hS (by rw [ha]; exact ⟨rfl, rfl⟩) (Nat.le_of_ble_eq_true rfl) (Nat.le_of_ble_eq_true rfl) dX3_afterToken_115
    · rw [zI_ltn (by have := num_le T L j; omega) (by decide)] at c91
      have hz91 : zI (num T L j) = nI (num T L j - 1) := zI_p (by omega)
      rw [hz91] at hl
      refine lv_iload hx hb dX3_afterToken_94 (lv_at hl 1 rfl) ?_
      refine lv_bipush (v := nI 30) hx hb dX3_afterToken_96 (by decide) ?_
      refine n_ic_gt (tgt := 114) hx hb dX3_afterToken_98 (by decide) (by have := num_le T L j; omega) (by decide) (fun c98 => ?_) (fun c98 => ?_)
      · refine lv_iconst (v := nI 4) hx hb dX3_afterToken_114 (by decide) ?_
        have ha : aft T L n 2 j (c, P, K) = (4, c, P, K) := by unfold aft; rw [if_neg (by decide), if_neg (by decide), if_pos rfl, if_neg (by omega)]
        exact uRetI hx hb hr hlocks hK hP hD hS (by rw [ha]; exact ⟨rfl, rfl⟩) (Nat.le_of_ble_eq_true rfl) (Nat.le_of_ble_eq_true rfl) dX3_afterToken_115
      · refine lv_aload_n hx hb dX3_afterToken_101 rfl (lv_at hl 2 rfl) ?_
        refine lv_iload hx hb dX3_afterToken_102 (lv_at hl 1 rfl) ?_
        refine uV (nL := 6) (wr := []) (ci := 1) (q0 := 0) (cq := (RX3, TX3, 5)) hx hb hml hown hts hK hA hP hD hS [.int (nI (num T L j - 1))] [] (c_X3_setCount l D ca h tx ip ic L c T P K (num T L j - 1) (hc2 rfl)) gX3_afterToken_X3_setCount rfl ⟨rfl, qX3_setCount⟩ ⟨Nat.le_of_ble_eq_true rfl, Nat.le_of_ble_eq_true rfl⟩ rfl rfl [0, 1, 2, 3] [] rfl rfl (by decide) (by decide) rfl hl.1 (Nat.le_of_ble_eq_true rfl) ⟨Nat.le_of_ble_eq_true rfl, Nat.le_of_ble_eq_true rfl⟩ dX3_afterToken_104 (oneK (wsN := [(h, .inr (1, [.ref tx, .int (nI L), .ref ip, .ref ic, .int (nI c)])), (tx, .inl (ca 2, 80, .inl (rwN T))), (ip, .inl (ca 0, 40, .inl (rwN P))), (ic, .inl (ca 0, 40, .inl (rwN (va_up K (c - 1) (num T L j - 1)))))]) [0, 1, 2, 3] (by decide) rfl (st1 := [.int (nI 1)]) rfl 0 0 rfl rfl (fun H locs hP hD hS => ?_))
        refine n_if_eq (tgt := 114) hx hb dX3_afterToken_107 (by decide) (by decide) (fun q => absurd q (by decide)) (fun _ => ?_)
        refine lv_iconst (v := nI 3) hx hb dX3_afterToken_110 (by decide) ?_
        refine lv_goto (tgt := 115) hx hb dX3_afterToken_111 (by decide) ?_
        have ha : aft T L n 2 j (c, P, K) = (3, c, P, va_up K (c - 1) (num T L j - 1)) := by unfold aft; rw [if_neg (by decide), if_neg (by decide), if_pos rfl, if_pos (by omega)]
        exact uRetI hx hb hr hlocks hK hP hD hS (by rw [ha]; exact ⟨rfl, rfl⟩) (Nat.le_of_ble_eq_true rfl) (Nat.le_of_ble_eq_true rfl) dX3_afterToken_115
  · refine lv_tableOut (tgt := 116) hx hb dX3_afterToken_15 (Or.inr (by decide)) (by decide) ?_
    refine lv_iload hx hb dX3_afterToken_116 (lv_at hl 0 rfl) ?_
    refine lv_bipush (v := nI 59) hx hb dX3_afterToken_118 (by decide) ?_
    refine lv_icmp_ne (tgt := 127) hx hb dX3_afterToken_120 (by decide) (fun c120 => ?_) (fun c120 => ?_)
    · rw [zI_eq (by have := cc_le hT L j; omega) (by decide)] at c120
      refine lv_iconst (v := nI 4) hx hb dX3_afterToken_127 (by decide) ?_
      have ha : aft T L n 3 j (c, P, K) = (4, c, P, K) := by unfold aft; rw [if_neg (by decide), if_neg (by decide), if_neg (by decide), if_neg (by omega)]
      exact uRetI hx hb hr hlocks hK hP hD hS (by rw [ha]; exact ⟨rfl, rfl⟩) (Nat.le_of_ble_eq_true rfl) (Nat.le_of_ble_eq_true rfl) dX3_afterToken_128
    · rw [zI_eq (by have := cc_le hT L j; omega) (by decide)] at c120
      refine lv_iconst (v := nI 0) hx hb dX3_afterToken_123 (by decide) ?_
      refine lv_goto (tgt := 128) hx hb dX3_afterToken_124 (by decide) ?_
      have ha : aft T L n 3 j (c, P, K) = (0, c, P, K) := by unfold aft; rw [if_neg (by decide), if_neg (by decide), if_neg (by decide), if_pos (by omega)]
      exact uRetI hx hb hr hlocks hK hP hD hS (by rw [ha]; exact ⟨rfl, rfl⟩) (Nat.le_of_ble_eq_true rfl) (Nat.le_of_ble_eq_true rfl) dX3_afterToken_128

theorem aft_le (T : Nat → Nat) (L n E j : Nat) (X : PS) (hE : E ≤ 3) : (aft T L n E j X).1 ≤ 4 := by
  unfold aft
  repeat' split
  all_goals simp
theorem pOKs_b {E j : Nat} {X : PS} (h : pOKs E j X) (hj : j ≤ 80) : X.1 < 2 ^ 31 := by
  by_cases e : E = 0
  · have := h.2.1 e; omega
  · have := h.2.2 e; omega

set_option maxHeartbeats 4000000 in
set_option maxRecDepth 100000 in
theorem c_X3_read (l : Launch) (D : va_G) (ca : Nat → ClassId) (h tx ip ic : Nat) (L c : Nat) (T P K : Nat → Nat) (n : Nat) (hL : L ≤ 80) (hT : ∀ i, T i ≤ 255) (hn : n ≤ 3) : UP l D ca yX3_read wsX3_read 4 91 0 0 [(h, .inr (1, [.ref tx, .int (nI L), .ref ip, .ref ic, .int (nI c)])), (tx, .inl (ca 2, 80, .inl (rwN T))), (ip, .inl (ca 0, 40, .inl (rwN P))), (ic, .inl (ca 0, 40, .inl (rwN K)))] [.ref h, .int (nI n)] (one (some (.int (zI (rdF T L n L 0 0 (0, P, K)).1))) [(h, .inr (1, [.ref tx, .int (nI L), .ref ip, .ref ic, .int (nI ((rdF T L n L 0 0 (0, P, K)).2.1))])), (tx, .inl (ca 2, 80, .inl (rwN T))), (ip, .inl (ca 0, 40, .inl (rwN ((rdF T L n L 0 0 (0, P, K)).2.2.1)))), (ic, .inl (ca 0, 40, .inl (rwN ((rdF T L n L 0 0 (0, P, K)).2.2.2))))]) := by
  refine UP.start (cc := cX3_read) (maxL := 4) (ret := (some .int)) (by decide) rfl (Nat.le_of_ble_eq_true rfl) ?_
  intro p_ e_ s_ m_ below_ meth_ c_ A hx hb hml hr hlocks hin hown hts hK hA hP hD hS ls hl
  have hown : s_.vm.findClass RX3 = some m_.cls := hown
  have hl : lv_has ls 4 [(0, .ref h), (1, .int (nI n))] := hl
  have hinX30 : ∀ w ∈ wsX30, w ∈ wsX3_read := fun w h => List.mem_cons_of_mem _ (List.mem_append_right _ h)
  refine lv_aload_n hx hb dX3_read_0 rfl (lv_at hl 0 rfl) ?_
  refine lv_iconst (v := nI 0) hx hb dX3_read_1 (by decide) ?_
  refine va_put (D := D) (ci := 1) (v := .int (nI 0)) (ty := tyX3 4) (C := RX3) (T := TX3) (N := 5) hx hb hts hinX30 tyX3 tyX3_ok nmX3 hown hK.1 hP hD hS 0 rfl rfl 4 (by decide) (hts (.fieldLink RX3 28 "RenamingGrid$Schedule" "items" "I") (List.mem_of_getElem? (i := 1) rfl)) (fun _ h9 => h9) rfl (tyX3_ok 4 (by decide)) rfl rfl (Nat.le_of_ble_eq_true rfl) dX3_read_2 (fun H locs hP hD hS => ?_)
  have hP : va_P D vwCl [(h, .inr (1, [.ref tx, .int (nI L), .ref ip, .ref ic, .int (nI 0)])), (tx, .inl (ca 2, 80, .inl (rwN T))), (ip, .inl (ca 0, 40, .inl (rwN P))), (ic, .inl (ca 0, 40, .inl (rwN K)))] H := hP
  have hD : va_D A [(h, .inr (1, [.ref tx, .int (nI L), .ref ip, .ref ic, .int (nI 0)])), (tx, .inl (ca 2, 80, .inl (rwN T))), (ip, .inl (ca 0, 40, .inl (rwN P))), (ic, .inl (ca 0, 40, .inl (rwN K)))] := hD
  refine lv_iconst (v := nI 0) hx hb dX3_read_5 (by decide) ?_
  refine lv_istore_n (lv' := [(2, .int (nI 0)), (0, .ref h), (1, .int (nI n))]) hx hb dX3_read_6 rfl hl (by decide) rfl (fun ls hl => ?_)
  refine lv_iconst (v := nI 0) hx hb dX3_read_7 (by decide) ?_
  refine lv_istore_n (lv' := [(3, .int (nI 0)), (2, .int (nI 0)), (0, .ref h), (1, .int (nI n))]) hx hb dX3_read_8 rfl hl (by decide) rfl (fun ls hl => ?_)
  have loop9 : ∀ (N_ : Nat) (j : Nat) (d : Nat) (E : Nat) (X : PS) (hj : j + d = L) (hX : pOKs E j X) (hs1 : rdF T L n d j E X = rdF T L n L 0 0 (0, P, K)) (hf : L < j + N_), ∀ (H : Heap) (locs : List Loc), va_P D vwCl [(h, .inr (1, [.ref tx, .int (nI L), .ref ip, .ref ic, .int (nI X.1)])), (tx, .inl (ca 2, 80, .inl (rwN T))), (ip, .inl (ca 0, 40, .inl (rwN X.2.1))), (ic, .inl (ca 0, 40, .inl (rwN X.2.2)))] H → va_D A [(h, .inr (1, [.ref tx, .int (nI L), .ref ip, .ref ic, .int (nI X.1)])), (tx, .inl (ca 2, 80, .inl (rwN T))), (ip, .inl (ca 0, 40, .inl (rwN X.2.1))), (ic, .inl (ca 0, 40, .inl (rwN X.2.2)))] → va_S A s_.heap H locs → ∀ (ls : Array Slot), lv_has ls 4 [(3, .int (nI j)), (2, .int (nI E)), (0, .ref h), (1, .int (nI n))] → W p_ l e_ ({ frames := 4, cells := 0, slots := 0, locals := 91 }) s_ m_ ([.ref h, .int (nI n)]).toArray below_ meth_ c_ H locs 0 0 (MQ below_ (uQA D ca A (one (some (.int (zI (rdF T L n L 0 0 (0, P, K)).1))) [(h, .inr (1, [.ref tx, .int (nI L), .ref ip, .ref ic, .int (nI ((rdF T L n L 0 0 (0, P, K)).2.1))])), (tx, .inl (ca 2, 80, .inl (rwN T))), (ip, .inl (ca 0, 40, .inl (rwN ((rdF T L n L 0 0 (0, P, K)).2.2.1)))), (ic, .inl (ca 0, 40, .inl (rwN ((rdF T L n L 0 0 (0, P, K)).2.2.2))))])) ([.ref h, .int (nI n)]).toArray s_ 0 0 A) (F0 m_ 9 ls []) := by
    intro N_
    induction N_ with
    | zero => intro j d E X hj hX hs1 hf; exfalso; omega
    | succ N_ ih9 =>
      intro j d E X hj hX hs1 hf H locs hP hD hS ls hl
      refine lv_iload_n hx hb dX3_read_9 rfl (lv_at hl 0 rfl) ?_
      refine lv_aload_n hx hb dX3_read_10 rfl (lv_at hl 2 rfl) ?_
      refine va_get (D := D) (ci := 1) (v := .int (nI L)) (C := RX3) (T := TX3) (N := 5) hx hb hts hinX30 hown hK.1 hP 0 rfl rfl 1 (by decide) (hts (.fieldLink RX3 20 "RenamingGrid$Schedule" "length" "I") (List.mem_of_getElem? (i := 2) rfl)) (fun _ h9 => h9) rfl dX3_read_11 ?_
      refine n_ic_ge (tgt := 46) hx hb dX3_read_14 (by decide) (by omega) (by omega) (fun c14 => ?_) (fun c14 => ?_)
      · refine lv_iload_n hx hb dX3_read_46 rfl (lv_at hl 1 rfl) ?_
        refine n_if_ne (tgt := 61) hx hb dX3_read_47 (by decide) (by have := hX.1; omega) (fun c47 => ?_) (fun c47 => ?_)
        · refine lv_aload_n hx hb dX3_read_61 rfl (lv_at hl 2 rfl) ?_
          refine va_get (D := D) (ci := 1) (v := .int (nI L)) (C := RX3) (T := TX3) (N := 5) hx hb hts hinX30 hown hK.1 hP 0 rfl rfl 1 (by decide) (hts (.fieldLink RX3 20 "RenamingGrid$Schedule" "length" "I") (List.mem_of_getElem? (i := 2) rfl)) (fun _ h9 => h9) rfl dX3_read_62 ?_
          have hd : d = 0 := by omega
          subst hd
          have hres : rdF T L n L 0 0 (0, P, K) = (L + 1, X) := by rw [← hs1]; show (if _ then _ else _, X) = _; rw [if_neg (by omega)]
          exact uRetI hx hb hr hlocks hK hP hD hS (by rw [hres]; exact ⟨by first | rfl | rw [zI_s], rfl⟩) (Nat.le_of_ble_eq_true rfl) (Nat.le_of_ble_eq_true rfl) dX3_read_65
        · refine lv_aload_n hx hb dX3_read_50 rfl (lv_at hl 2 rfl) ?_
          refine va_get (D := D) (ci := 1) (v := .int (nI X.1)) (C := RX3) (T := TX3) (N := 5) hx hb hts hinX30 hown hK.1 hP 0 rfl rfl 4 (by decide) (hts (.fieldLink RX3 28 "RenamingGrid$Schedule" "items" "I") (List.mem_of_getElem? (i := 1) rfl)) (fun _ h9 => h9) rfl dX3_read_51 ?_
          refine n_if_le (tgt := 61) hx hb dX3_read_54 (by decide) (pOKs_b hX (by omega)) (fun c54 => ?_) (fun c54 => ?_)
          · refine lv_aload_n hx hb dX3_read_61 rfl (lv_at hl 2 rfl) ?_
            refine va_get (D := D) (ci := 1) (v := .int (nI L)) (C := RX3) (T := TX3) (N := 5) hx hb hts hinX30 hown hK.1 hP 0 rfl rfl 1 (by decide) (hts (.fieldLink RX3 20 "RenamingGrid$Schedule" "length" "I") (List.mem_of_getElem? (i := 2) rfl)) (fun _ h9 => h9) rfl dX3_read_62 ?_
            have hd : d = 0 := by omega
            subst hd
            have hres : rdF T L n L 0 0 (0, P, K) = (L + 1, X) := by rw [← hs1]; show (if _ then _ else _, X) = _; rw [if_neg (by omega)]
            exact uRetI hx hb hr hlocks hK hP hD hS (by rw [hres]; exact ⟨by first | rfl | rw [zI_s], rfl⟩) (Nat.le_of_ble_eq_true rfl) (Nat.le_of_ble_eq_true rfl) dX3_read_65
          · refine lv_iconst (v := -1) hx hb dX3_read_57 (by decide) ?_
            refine lv_goto (tgt := 65) hx hb dX3_read_58 (by decide) ?_
            have hd : d = 0 := by omega
            subst hd
            have hres : rdF T L n L 0 0 (0, P, K) = (0, X) := by rw [← hs1]; show (if _ then _ else _, X) = _; rw [if_pos ⟨c47, c54⟩]
            exact uRetI hx hb hr hlocks hK hP hD hS (by rw [hres]; exact ⟨by first | rfl | rw [zI_s], rfl⟩) (Nat.le_of_ble_eq_true rfl) (Nat.le_of_ble_eq_true rfl) dX3_read_65
      · refine lv_aload_n hx hb dX3_read_17 rfl (lv_at hl 2 rfl) ?_
        refine lv_iload_n hx hb dX3_read_18 rfl (lv_at hl 0 rfl) ?_
        refine rdV (nL := 4) (ci := 1) (q0 := 0) (cq := (RX3, TX3, 5)) hx hb hml hown hts hK hP [.int (nI j)] [] (c_X3_beginsToken l D ca h tx ip ic L X.1 T j hL (by omega) hT) gX3_read_X3_beginsToken rfl ⟨rfl, qX3_beginsToken⟩ ⟨Nat.le_of_ble_eq_true rfl, Nat.le_of_ble_eq_true rfl⟩ rfl rfl [0, 1] rfl rfl hl.1 (Nat.le_of_ble_eq_true rfl) ⟨Nat.le_of_ble_eq_true rfl, Nat.le_of_ble_eq_true rfl⟩ dX3_read_19 ?_
        refine n_if_eq (tgt := 40) hx hb dX3_read_22 (by decide) (bN_b _) (fun c22 => ?_) (fun c22 => ?_)
        · rw [bN_0] at c22
          refine lv_iinc (v := (nI (j + 1))) (lv' := [(3, .int (nI (j + 1))), (2, .int (nI E)), (0, .ref h), (1, .int (nI n))]) hx hb dX3_read_40 hl (k := 0) rfl (show nI j + Int32.ofInt 1 = nI (j + 1) from nI_add _ 1) (by decide) rfl (fun ls hl => ?_)
          refine lv_goto (tgt := 9) hx hb dX3_read_43 (by decide) ?_
          obtain ⟨d2, rfl⟩ : ∃ d2, d = d2 + 1 := ⟨d - 1, by omega⟩
          exact ih9 (j + 1) d2 E X (by omega) (pOKs_w hX (by omega)) (by rw [← hs1]; symm; show (if _ then _ else _) = _; rw [if_neg c22]) (by omega) H locs hP hD hS ls (lv_sub hl [0, 1, 2, 3] rfl)
        · rw [bN_1] at c22
          refine lv_aload_n hx hb dX3_read_25 rfl (lv_at hl 2 rfl) ?_
          refine lv_iload_n hx hb dX3_read_26 rfl (lv_at hl 1 rfl) ?_
          refine lv_iload_n hx hb dX3_read_27 rfl (lv_at hl 0 rfl) ?_
          refine lv_iload_n hx hb dX3_read_28 rfl (lv_at hl 3 rfl) ?_
          have hX2 := hX
          obtain ⟨hx1, hx2, hx3⟩ := hX2
          refine uV (nL := 4) (wr := []) (ci := 1) (q0 := 0) (cq := (RX3, TX3, 5)) hx hb hml hown hts hK hA hP hD hS [.int (nI E), .int (nI j), .int (nI n)] [] (c_X3_afterToken l D ca h tx ip ic L X.1 T X.2.1 X.2.2 E j n hx1 hL (by omega) hT hn (fun z => by have := hx2 z; omega) (fun z => by have := hx3 (by omega); omega)) gX3_read_X3_afterToken rfl ⟨rfl, qX3_afterToken⟩ ⟨Nat.le_of_ble_eq_true rfl, Nat.le_of_ble_eq_true rfl⟩ rfl rfl [0, 1, 2, 3] [] rfl rfl (by decide) (by decide) rfl hl.1 (Nat.le_of_ble_eq_true rfl) ⟨Nat.le_of_ble_eq_true rfl, Nat.le_of_ble_eq_true rfl⟩ dX3_read_29 (oneK (wsN := [(h, .inr (1, [.ref tx, .int (nI L), .ref ip, .ref ic, .int (nI ((aft T L n E j (X.1, X.2.1, X.2.2)).2.1))])), (tx, .inl (ca 2, 80, .inl (rwN T))), (ip, .inl (ca 0, 40, .inl (rwN ((aft T L n E j (X.1, X.2.1, X.2.2)).2.2.1)))), (ic, .inl (ca 0, 40, .inl (rwN ((aft T L n E j (X.1, X.2.1, X.2.2)).2.2.2))))]) [0, 1, 2, 3] (by decide) rfl (st1 := [.int (nI ((aft T L n E j (X.1, X.2.1, X.2.2)).1))]) rfl 0 0 rfl rfl (fun H locs hP hD hS => ?_))
          refine lv_istore_n (lv' := [(2, .int (nI ((aft T L n E j (X.1, X.2.1, X.2.2)).1))), (3, .int (nI j)), (0, .ref h), (1, .int (nI n))]) hx hb dX3_read_32 rfl hl (by decide) rfl (fun ls hl => ?_)
          refine lv_iload_n hx hb dX3_read_33 rfl (lv_at hl 0 rfl) ?_
          refine lv_iconst (v := nI 4) hx hb dX3_read_34 (by decide) ?_
          refine n_ic_ne (tgt := 40) hx hb dX3_read_35 (by decide) (Nat.lt_of_le_of_lt (aft_le T L n E j X hx1) (by decide)) (by decide) (fun c35 => ?_) (fun c35 => ?_)
          · refine lv_iinc (v := (nI (j + 1))) (lv' := [(3, .int (nI (j + 1))), (2, .int (nI ((aft T L n E j (X.1, X.2.1, X.2.2)).1))), (0, .ref h), (1, .int (nI n))]) hx hb dX3_read_40 hl (k := 1) rfl (show nI j + Int32.ofInt 1 = nI (j + 1) from nI_add _ 1) (by decide) rfl (fun ls hl => ?_)
            refine lv_goto (tgt := 9) hx hb dX3_read_43 (by decide) ?_
            obtain ⟨d2, rfl⟩ : ∃ d2, d = d2 + 1 := ⟨d - 1, by omega⟩
            exact ih9 (j + 1) d2 ((aft T L n E j X).1) ((aft T L n E j X).2) (by omega) (pOKs_aft hX c35) (by rw [← hs1]; symm; show (if _ then _ else _) = _; rw [if_pos c22, if_neg c35]) (by omega) H locs hP hD hS ls (lv_sub hl [0, 1, 2, 3] rfl)
          · refine lv_iload_n hx hb dX3_read_38 rfl (lv_at hl 1 rfl) ?_
            obtain ⟨d2, rfl⟩ : ∃ d2, d = d2 + 1 := ⟨d - 1, by omega⟩
            have hres : rdF T L n L 0 0 (0, P, K) = (j + 1, (aft T L n E j X).2) := by rw [← hs1]; show (if _ then _ else _) = _; rw [if_pos c22, if_pos c35]
            exact uRetI hx hb hr hlocks hK hP hD hS (by rw [hres]; exact ⟨by rw [zI_s], rfl⟩) (Nat.le_of_ble_eq_true rfl) (Nat.le_of_ble_eq_true rfl) dX3_read_39
  exact loop9 (L + 1) 0 L 0 ((0, P, K)) (by omega) ⟨by decide, fun _ => by show 2 * 0 ≤ 0; decide, fun z => absurd rfl z⟩ rfl (by omega) _ _ hP hD hS ls (lv_sub hl [0, 1, 2, 3] rfl)

set_option maxHeartbeats 4000000 in
set_option maxRecDepth 100000 in
theorem c_X3_executeOn (l : Launch) (D : va_G) (ca : Nat → ClassId) (h tx ip ic t : Nat) (L c : Nat) (P K : Nat → Nat) (S : Nat → Nat) (hc : c ≤ 40) (hv : ∀ i, i < c → P i < 3 ∧ K i < 2 ^ 31) (hok : SOK S) : UP l D ca yX3_executeOn wsX3_executeOn 5 132 0 0 [(h, .inr (1, [.ref tx, .int (nI L), .ref ip, .ref ic, .int (nI c)])), (ip, .inl (ca 0, 40, .inl (rwN P))), (ic, .inl (ca 0, 40, .inl (rwN K))), (t, .inr (2, cS S))] [.ref h, .ref t] (one (some (.int (nI (exN (c, P, K) c 0 S)))) [(h, .inr (1, [.ref tx, .int (nI L), .ref ip, .ref ic, .int (nI c)])), (ip, .inl (ca 0, 40, .inl (rwN P))), (ic, .inl (ca 0, 40, .inl (rwN K))), (t, .inr (2, cS ((exS (c, P, K) c 0 S))))]) := by
  refine UP.start (cc := cX3_executeOn) (maxL := 4) (ret := (some .int)) (by decide) rfl (Nat.le_of_ble_eq_true rfl) ?_
  intro p_ e_ s_ m_ below_ meth_ c_ A hx hb hml hr hlocks hin hown hts hK hA hP hD hS ls hl
  have hown : s_.vm.findClass RX3 = some m_.cls := hown
  have hl : lv_has ls 4 [(0, .ref h), (1, .ref t)] := hl
  have hinX30 : ∀ w ∈ wsX30, w ∈ wsX3_executeOn := fun w h => List.mem_cons_of_mem _ (List.mem_append_left _ (List.mem_append_right _ h))
  have hinX40 : ∀ w ∈ wsX40, w ∈ wsX3_executeOn := fun w h => List.mem_cons_of_mem _ (List.mem_append_right _ h)
  refine lv_iconst (v := nI 0) hx hb dX3_executeOn_0 (by decide) ?_
  refine lv_istore_n (lv' := [(2, .int (nI 0)), (0, .ref h), (1, .ref t)]) hx hb dX3_executeOn_1 rfl hl (by decide) rfl (fun ls hl => ?_)
  refine lv_iconst (v := nI 0) hx hb dX3_executeOn_2 (by decide) ?_
  refine lv_istore_n (lv' := [(3, .int (nI 0)), (2, .int (nI 0)), (0, .ref h), (1, .ref t)]) hx hb dX3_executeOn_3 rfl hl (by decide) rfl (fun ls hl => ?_)
  have loop4 : ∀ (N_ : Nat) (i : Nat) (d : Nat) (a : Nat) (Z : Nat → Nat) (hj : i + d = c) (hs1 : exS (c, P, K) d i Z = exS (c, P, K) c 0 S) (hn1 : a + exN (c, P, K) d i Z = exN (c, P, K) c 0 S) (hok1 : SOK Z) (hf : c < i + N_), ∀ (H : Heap) (locs : List Loc), va_P D vwCl [(h, .inr (1, [.ref tx, .int (nI L), .ref ip, .ref ic, .int (nI c)])), (ip, .inl (ca 0, 40, .inl (rwN P))), (ic, .inl (ca 0, 40, .inl (rwN K))), (t, .inr (2, cS Z))] H → va_D A [(h, .inr (1, [.ref tx, .int (nI L), .ref ip, .ref ic, .int (nI c)])), (ip, .inl (ca 0, 40, .inl (rwN P))), (ic, .inl (ca 0, 40, .inl (rwN K))), (t, .inr (2, cS Z))] → va_S A s_.heap H locs → ∀ (ls : Array Slot), lv_has ls 4 [(3, .int (nI i)), (2, .int (nI a)), (0, .ref h), (1, .ref t)] → W p_ l e_ ({ frames := 5, cells := 0, slots := 0, locals := 132 }) s_ m_ ([.ref h, .ref t]).toArray below_ meth_ c_ H locs 0 0 (MQ below_ (uQA D ca A (one (some (.int (nI (exN (c, P, K) c 0 S)))) [(h, .inr (1, [.ref tx, .int (nI L), .ref ip, .ref ic, .int (nI c)])), (ip, .inl (ca 0, 40, .inl (rwN P))), (ic, .inl (ca 0, 40, .inl (rwN K))), (t, .inr (2, cS ((exS (c, P, K) c 0 S))))])) ([.ref h, .ref t]).toArray s_ 0 0 A) (F0 m_ 4 ls []) := by
    intro N_
    induction N_ with
    | zero => intro i d a Z hj hs1 hn1 hok1 hf; exfalso; omega
    | succ N_ ih4 =>
      intro i d a Z hj hs1 hn1 hok1 hf H locs hP hD hS ls hl
      refine lv_iload_n hx hb dX3_executeOn_4 rfl (lv_at hl 0 rfl) ?_
      refine lv_aload_n hx hb dX3_executeOn_5 rfl (lv_at hl 2 rfl) ?_
      refine va_get (D := D) (ci := 1) (v := .int (nI c)) (C := RX3) (T := TX3) (N := 5) hx hb hts hinX30 hown hK.1 hP 0 rfl rfl 4 (by decide) (hts (.fieldLink RX3 28 "RenamingGrid$Schedule" "items" "I") (List.mem_of_getElem? (i := 1) rfl)) (fun _ h9 => h9) rfl dX3_executeOn_6 ?_
      refine n_ic_ge (tgt := 55) hx hb dX3_executeOn_9 (by decide) (by omega) (by omega) (fun c9 => ?_) (fun c9 => ?_)
      · refine lv_iload_n hx hb dX3_executeOn_55 rfl (lv_at hl 1 rfl) ?_
        have hd : d = 0 := by first | omega | (exfalso; omega)
        subst hd
        exact uRetI hx hb hr hlocks hK hP hD hS ⟨by rw [← hn1]; rfl, by rw [← hs1]; rfl⟩ (Nat.le_of_ble_eq_true rfl) (Nat.le_of_ble_eq_true rfl) dX3_executeOn_56
      · refine lv_iload_n hx hb dX3_executeOn_12 rfl (lv_at hl 0 rfl) ?_
        refine lv_aload_n hx hb dX3_executeOn_13 rfl (lv_at hl 2 rfl) ?_
        refine va_get (D := D) (ci := 1) (v := .ref ip) (C := RX3) (T := TX3) (N := 5) hx hb hts hinX30 hown hK.1 hP 0 rfl rfl 2 (by decide) (hts (.fieldLink RX3 13 "RenamingGrid$Schedule" "itemProcesses" "[I") (List.mem_of_getElem? (i := 2) rfl)) (fun _ h9 => h9) rfl dX3_executeOn_14 ?_
        refine va_alen (D := D) (v := nI 40) hx hb hK.1 hP 1 0 rfl rfl rfl dX3_executeOn_17 ?_
        refine n_ic_ge (tgt := 55) hx hb dX3_executeOn_18 (by decide) (by omega) (by decide) (fun c18 => absurd c18 (by omega)) (fun c18 => ?_)
        refine lv_iload_n hx hb dX3_executeOn_21 rfl (lv_at hl 0 rfl) ?_
        refine lv_aload_n hx hb dX3_executeOn_22 rfl (lv_at hl 2 rfl) ?_
        refine va_get (D := D) (ci := 1) (v := .ref ic) (C := RX3) (T := TX3) (N := 5) hx hb hts hinX30 hown hK.1 hP 0 rfl rfl 3 (by decide) (hts (.fieldLink RX3 17 "RenamingGrid$Schedule" "itemCounts" "[I") (List.mem_of_getElem? (i := 3) rfl)) (fun _ h9 => h9) rfl dX3_executeOn_23 ?_
        refine va_alen (D := D) (v := nI 40) hx hb hK.1 hP 2 0 rfl rfl rfl dX3_executeOn_26 ?_
        refine n_ic_ge (tgt := 55) hx hb dX3_executeOn_27 (by decide) (by omega) (by decide) (fun c27 => absurd c27 (by omega)) (fun c27 => ?_)
        refine lv_iload_n hx hb dX3_executeOn_30 rfl (lv_at hl 1 rfl) ?_
        refine lv_aload_n hx hb dX3_executeOn_31 rfl (lv_at hl 3 rfl) ?_
        refine lv_aload_n hx hb dX3_executeOn_32 rfl (lv_at hl 2 rfl) ?_
        refine va_get (D := D) (ci := 1) (v := .ref ip) (C := RX3) (T := TX3) (N := 5) hx hb hts hinX30 hown hK.1 hP 0 rfl rfl 2 (by decide) (hts (.fieldLink RX3 13 "RenamingGrid$Schedule" "itemProcesses" "[I") (List.mem_of_getElem? (i := 2) rfl)) (fun _ h9 => h9) rfl dX3_executeOn_33 ?_
        refine lv_iload_n hx hb dX3_executeOn_36 rfl (lv_at hl 0 rfl) ?_
        refine n_iald (D := D) (ca := ca) (v := (nI (P i))) hx hb hK.1 hP 1 (f := (rwN P)) rfl (by omega) (by decide) rfl dX3_executeOn_37 ?_
        refine lv_aload_n hx hb dX3_executeOn_38 rfl (lv_at hl 2 rfl) ?_
        refine va_get (D := D) (ci := 1) (v := .ref ic) (C := RX3) (T := TX3) (N := 5) hx hb hts hinX30 hown hK.1 hP 0 rfl rfl 3 (by decide) (hts (.fieldLink RX3 17 "RenamingGrid$Schedule" "itemCounts" "[I") (List.mem_of_getElem? (i := 3) rfl)) (fun _ h9 => h9) rfl dX3_executeOn_39 ?_
        refine lv_iload_n hx hb dX3_executeOn_42 rfl (lv_at hl 0 rfl) ?_
        refine n_iald (D := D) (ca := ca) (v := (nI (K i))) hx hb hK.1 hP 2 (f := (rwN K)) rfl (by omega) (by decide) rfl dX3_executeOn_43 ?_
        refine uV (nL := 4) (wr := [(h, .inr (1, [.ref tx, .int (nI L), .ref ip, .ref ic, .int (nI c)])), (ip, .inl (ca 0, 40, .inl (rwN P))), (ic, .inl (ca 0, 40, .inl (rwN K)))]) (ci := 2) (q0 := 3) (cq := (RX4, TX4, 8)) hx hb hml hown hts hK hA hP hD hS [.int (nI (P i)), .int (nI (K i))] [.int (nI a)] (c_X4_advanceUpTo l D ca t Z (P i) (K i) hok1 (hv i (by omega)).1 (hv i (by omega)).2) gX3_executeOn_X4_advanceUpTo rfl ⟨rfl, qX4_advanceUpTo⟩ ⟨Nat.le_of_ble_eq_true rfl, Nat.le_of_ble_eq_true rfl⟩ rfl rfl [3] [0, 1, 2] rfl rfl (by decide) (by decide) rfl hl.1 (Nat.le_of_ble_eq_true rfl) ⟨Nat.le_of_ble_eq_true rfl, Nat.le_of_ble_eq_true rfl⟩ dX3_executeOn_44 (oneK (wsN := [(h, .inr (1, [.ref tx, .int (nI L), .ref ip, .ref ic, .int (nI c)])), (ip, .inl (ca 0, 40, .inl (rwN P))), (ic, .inl (ca 0, 40, .inl (rwN K))), (t, .inr (2, cS ((runS (K i) Z (P i)))))]) [0, 1, 2, 3] (by decide) rfl (st1 := [.int (nI (runN (K i) Z (P i))), .int (nI a)]) rfl 0 0 rfl rfl (fun H locs hP hD hS => ?_))
        refine n_iadd hx hb dX3_executeOn_47 ?_
        refine lv_istore_n (lv' := [(2, .int (nI (a + (runN (K i) Z (P i))))), (3, .int (nI i)), (0, .ref h), (1, .ref t)]) hx hb dX3_executeOn_48 rfl hl (by decide) rfl (fun ls hl => ?_)
        refine lv_iinc (v := (nI (i + 1))) (lv' := [(3, .int (nI (i + 1))), (2, .int (nI (a + (runN (K i) Z (P i))))), (0, .ref h), (1, .ref t)]) hx hb dX3_executeOn_49 hl (k := 1) rfl (show nI i + Int32.ofInt 1 = nI (i + 1) from nI_add _ 1) (by decide) rfl (fun ls hl => ?_)
        refine lv_goto (tgt := 4) hx hb dX3_executeOn_52 (by decide) ?_
        obtain ⟨d2, rfl⟩ : ∃ d2, d = d2 + 1 := ⟨d - 1, by omega⟩
        exact ih4 (i + 1) d2 (a + runN (K i) Z (P i)) ((runS (K i) Z (P i))) (by omega) (by rw [← hs1]; rfl) (by rw [← hn1]; show _ + exN _ _ _ _ = _ + (_ + exN _ _ _ _); rw [Nat.add_assoc]) (SOK_run _ _ _ hok1 (hv i (by omega)).1) (by omega) H locs hP hD hS ls (lv_sub hl [0, 1, 2, 3] rfl)
  exact loop4 (c + 1) 0 c 0 S (by omega) rfl (by omega) hok (by omega) _ _ hP hD hS ls (lv_sub hl [0, 1, 2, 3] rfl)

