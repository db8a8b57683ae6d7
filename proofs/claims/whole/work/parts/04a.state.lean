set_option maxHeartbeats 4000000 in
set_option maxRecDepth 100000 in
theorem c_X4_init (l : Launch) (D : va_G) (ca : Nat → ClassId) (h : Nat) (S : Nat → Nat) : UP l D ca yX4_init wsX4_init 1 12 0 0 [(h, .inr (2, cS S))] [.ref h] (one none [(h, .inr (2, cS S))]) := by
  refine UP.start (cc := cX4_init) (maxL := 1) (ret := none) (by decide) rfl (Nat.le_of_ble_eq_true rfl) ?_
  intro p_ e_ s_ m_ below_ meth_ c_ A hx hb hml hr hlocks hin hown hts hK hA hP hD hS ls hl
  have hown : s_.vm.findClass RX4 = some m_.cls := hown
  have hl : lv_has ls 1 [(0, .ref h)] := hl
  refine lv_aload_n hx hb dX4_init_0 rfl (lv_at hl 0 rfl) ?_
  refine W.objInit hx hb hown (hts (.methodLink RX4 3 objectInit) (List.mem_of_getElem? (i := 1) rfl)) (hts (.instanceMethod objectInit) (List.mem_of_getElem? (i := 2) rfl)) (hts (.code objectInit ⟨#[0xb1]⟩ 1 none) (List.mem_of_getElem? (i := 3) rfl)) rfl (by rw [hml]; exact hl.1) rfl dX4_init_1 (Nat.le_of_ble_eq_true rfl) (Nat.le_of_ble_eq_true rfl) ?_
  refine W.eq (g2 := F0 m_ 4 ls []) rfl ?_
  exact uRetV hx hb hr hlocks hK hP hD hS ⟨rfl, rfl⟩ (Nat.le_of_ble_eq_true rfl) (Nat.le_of_ble_eq_true rfl) dX4_init_4

set_option maxHeartbeats 4000000 in
set_option maxRecDepth 100000 in
theorem c_X4_begin (l : Launch) (D : va_G) (ca : Nat → ClassId) (h : Nat) (S : Nat → Nat) (z n g : Nat) (hn : n ≤ 3) : UP l D ca yX4_begin wsX4_begin 1 22 0 0 [(h, .inr (2, cS S))] [.ref h, .int (nI z), .int (nI n), .int (nI g)] (one none [(h, .inr (2, cS (begS z n g)))]) := by
  refine UP.start (cc := cX4_begin) (maxL := 5) (ret := none) (by decide) rfl (Nat.le_of_ble_eq_true rfl) ?_
  intro p_ e_ s_ m_ below_ meth_ c_ A hx hb hml hr hlocks hin hown hts hK hA hP hD hS ls hl
  have hown : s_.vm.findClass RX4 = some m_.cls := hown
  have hl : lv_has ls 5 [(0, .ref h), (1, .int (nI z)), (2, .int (nI n)), (3, .int (nI g))] := hl
  have hinX40 : ∀ w ∈ wsX40, w ∈ wsX4_begin := fun w h => List.mem_cons_of_mem _ (List.mem_append_right _ h)
  refine lv_aload_n hx hb dX4_begin_0 rfl (lv_at hl 0 rfl) ?_
  refine lv_iload_n hx hb dX4_begin_1 rfl (lv_at hl 1 rfl) ?_
  refine va_put (D := D) (ci := 2) (v := .int (nI z)) (ty := tyX4 0) (C := RX4) (T := TX4) (N := 8) hx hb hts hinX40 tyX4 tyX4_ok nmX4 hown hK.1 hP hD hS 0 rfl rfl 0 (by decide) (hts (.fieldLink RX4 9 "RenamingGrid$State" "size" "I") (List.mem_of_getElem? (i := 1) rfl)) (fun _ h9 => h9) rfl (tyX4_ok 0 (by decide)) rfl rfl (Nat.le_of_ble_eq_true rfl) dX4_begin_2 (fun H locs hP hD hS => ?_)
  have hP : va_P D vwCl [(h, .inr (2, [.int (nI z), .int (nI (S 1)), .int (nI (S 2)), .long (lN (S 3)), .long (lN (S 4)), .long (lN (S 5)), .long (lN (S 6)), .long (lN (S 7))]))] H := hP
  have hD : va_D A [(h, .inr (2, [.int (nI z), .int (nI (S 1)), .int (nI (S 2)), .long (lN (S 3)), .long (lN (S 4)), .long (lN (S 5)), .long (lN (S 6)), .long (lN (S 7))]))] := hD
  refine lv_aload_n hx hb dX4_begin_5 rfl (lv_at hl 0 rfl) ?_
  refine lv_iload_n hx hb dX4_begin_6 rfl (lv_at hl 2 rfl) ?_
  refine va_put (D := D) (ci := 2) (v := .int (nI n)) (ty := tyX4 1) (C := RX4) (T := TX4) (N := 8) hx hb hts hinX40 tyX4 tyX4_ok nmX4 hown hK.1 hP hD hS 0 rfl rfl 1 (by decide) (hts (.fieldLink RX4 15 "RenamingGrid$State" "processes" "I") (List.mem_of_getElem? (i := 2) rfl)) (fun _ h9 => h9) rfl (tyX4_ok 1 (by decide)) rfl rfl (Nat.le_of_ble_eq_true rfl) dX4_begin_7 (fun H locs hP hD hS => ?_)
  have hP : va_P D vwCl [(h, .inr (2, [.int (nI z), .int (nI n), .int (nI (S 2)), .long (lN (S 3)), .long (lN (S 4)), .long (lN (S 5)), .long (lN (S 6)), .long (lN (S 7))]))] H := hP
  have hD : va_D A [(h, .inr (2, [.int (nI z), .int (nI n), .int (nI (S 2)), .long (lN (S 3)), .long (lN (S 4)), .long (lN (S 5)), .long (lN (S 6)), .long (lN (S 7))]))] := hD
  refine lv_aload_n hx hb dX4_begin_10 rfl (lv_at hl 0 rfl) ?_
  refine lv_iload_n hx hb dX4_begin_11 rfl (lv_at hl 3 rfl) ?_
  refine va_put (D := D) (ci := 2) (v := .int (nI g)) (ty := tyX4 2) (C := RX4) (T := TX4) (N := 8) hx hb hts hinX40 tyX4 tyX4_ok nmX4 hown hK.1 hP hD hS 0 rfl rfl 2 (by decide) (hts (.fieldLink RX4 18 "RenamingGrid$State" "program" "I") (List.mem_of_getElem? (i := 3) rfl)) (fun _ h9 => h9) rfl (tyX4_ok 2 (by decide)) rfl rfl (Nat.le_of_ble_eq_true rfl) dX4_begin_12 (fun H locs hP hD hS => ?_)
  have hP : va_P D vwCl [(h, .inr (2, [.int (nI z), .int (nI n), .int (nI g), .long (lN (S 3)), .long (lN (S 4)), .long (lN (S 5)), .long (lN (S 6)), .long (lN (S 7))]))] H := hP
  have hD : va_D A [(h, .inr (2, [.int (nI z), .int (nI n), .int (nI g), .long (lN (S 3)), .long (lN (S 4)), .long (lN (S 5)), .long (lN (S 6)), .long (lN (S 7))]))] := hD
  refine lv_aload_n hx hb dX4_begin_15 rfl (lv_at hl 0 rfl) ?_
  refine lv_lconst (v := lN 0) hx hb dX4_begin_16 (by decide) ?_
  refine va_put (D := D) (ci := 2) (v := .long (lN 0)) (ty := tyX4 3) (C := RX4) (T := TX4) (N := 8) hx hb hts hinX40 tyX4 tyX4_ok nmX4 hown hK.1 hP hD hS 0 rfl rfl 3 (by decide) (hts (.fieldLink RX4 21 "RenamingGrid$State" "configuration" "J") (List.mem_of_getElem? (i := 4) rfl)) (fun _ h9 => h9) rfl (tyX4_ok 3 (by decide)) rfl rfl (Nat.le_of_ble_eq_true rfl) dX4_begin_17 (fun H locs hP hD hS => ?_)
  have hP : va_P D vwCl [(h, .inr (2, [.int (nI z), .int (nI n), .int (nI g), .long (lN 0), .long (lN (S 4)), .long (lN (S 5)), .long (lN (S 6)), .long (lN (S 7))]))] H := hP
  have hD : va_D A [(h, .inr (2, [.int (nI z), .int (nI n), .int (nI g), .long (lN 0), .long (lN (S 4)), .long (lN (S 5)), .long (lN (S 6)), .long (lN (S 7))]))] := hD
  refine lv_aload_n hx hb dX4_begin_20 rfl (lv_at hl 0 rfl) ?_
  refine lv_lconst (v := lN 0) hx hb dX4_begin_21 (by decide) ?_
  refine va_put (D := D) (ci := 2) (v := .long (lN 0)) (ty := tyX4 4) (C := RX4) (T := TX4) (N := 8) hx hb hts hinX40 tyX4 tyX4_ok nmX4 hown hK.1 hP hD hS 0 rfl rfl 4 (by decide) (hts (.fieldLink RX4 25 "RenamingGrid$State" "stepsMade" "J") (List.mem_of_getElem? (i := 5) rfl)) (fun _ h9 => h9) rfl (tyX4_ok 4 (by decide)) rfl rfl (Nat.le_of_ble_eq_true rfl) dX4_begin_22 (fun H locs hP hD hS => ?_)
  have hP : va_P D vwCl [(h, .inr (2, [.int (nI z), .int (nI n), .int (nI g), .long (lN 0), .long (lN 0), .long (lN (S 5)), .long (lN (S 6)), .long (lN (S 7))]))] H := hP
  have hD : va_D A [(h, .inr (2, [.int (nI z), .int (nI n), .int (nI g), .long (lN 0), .long (lN 0), .long (lN (S 5)), .long (lN (S 6)), .long (lN (S 7))]))] := hD
  refine lv_aload_n hx hb dX4_begin_25 rfl (lv_at hl 0 rfl) ?_
  refine lv_lconst (v := lN 0) hx hb dX4_begin_26 (by decide) ?_
  refine va_put (D := D) (ci := 2) (v := .long (lN 0)) (ty := tyX4 5) (C := RX4) (T := TX4) (N := 8) hx hb hts hinX40 tyX4 tyX4_ok nmX4 hown hK.1 hP hD hS 0 rfl rfl 5 (by decide) (hts (.fieldLink RX4 28 "RenamingGrid$State" "entries" "J") (List.mem_of_getElem? (i := 6) rfl)) (fun _ h9 => h9) rfl (tyX4_ok 5 (by decide)) rfl rfl (Nat.le_of_ble_eq_true rfl) dX4_begin_27 (fun H locs hP hD hS => ?_)
  have hP : va_P D vwCl [(h, .inr (2, [.int (nI z), .int (nI n), .int (nI g), .long (lN 0), .long (lN 0), .long (lN 0), .long (lN (S 6)), .long (lN (S 7))]))] H := hP
  have hD : va_D A [(h, .inr (2, [.int (nI z), .int (nI n), .int (nI g), .long (lN 0), .long (lN 0), .long (lN 0), .long (lN (S 6)), .long (lN (S 7))]))] := hD
  refine lv_aload_n hx hb dX4_begin_30 rfl (lv_at hl 0 rfl) ?_
  refine lv_lconst (v := lN 0) hx hb dX4_begin_31 (by decide) ?_
  refine va_put (D := D) (ci := 2) (v := .long (lN 0)) (ty := tyX4 6) (C := RX4) (T := TX4) (N := 8) hx hb hts hinX40 tyX4 tyX4_ok nmX4 hown hK.1 hP hD hS 0 rfl rfl 6 (by decide) (hts (.fieldLink RX4 31 "RenamingGrid$State" "rightExits" "J") (List.mem_of_getElem? (i := 7) rfl)) (fun _ h9 => h9) rfl (tyX4_ok 6 (by decide)) rfl rfl (Nat.le_of_ble_eq_true rfl) dX4_begin_32 (fun H locs hP hD hS => ?_)
  have hP : va_P D vwCl [(h, .inr (2, [.int (nI z), .int (nI n), .int (nI g), .long (lN 0), .long (lN 0), .long (lN 0), .long (lN 0), .long (lN (S 7))]))] H := hP
  have hD : va_D A [(h, .inr (2, [.int (nI z), .int (nI n), .int (nI g), .long (lN 0), .long (lN 0), .long (lN 0), .long (lN 0), .long (lN (S 7))]))] := hD
  refine lv_aload_n hx hb dX4_begin_35 rfl (lv_at hl 0 rfl) ?_
  refine lv_lconst (v := lN 0) hx hb dX4_begin_36 (by decide) ?_
  refine va_put (D := D) (ci := 2) (v := .long (lN 0)) (ty := tyX4 7) (C := RX4) (T := TX4) (N := 8) hx hb hts hinX40 tyX4 tyX4_ok nmX4 hown hK.1 hP hD hS 0 rfl rfl 7 (by decide) (hts (.fieldLink RX4 34 "RenamingGrid$State" "downExits" "J") (List.mem_of_getElem? (i := 8) rfl)) (fun _ h9 => h9) rfl (tyX4_ok 7 (by decide)) rfl rfl (Nat.le_of_ble_eq_true rfl) dX4_begin_37 (fun H locs hP hD hS => ?_)
  have hP : va_P D vwCl [(h, .inr (2, [.int (nI z), .int (nI n), .int (nI g), .long (lN 0), .long (lN 0), .long (lN 0), .long (lN 0), .long (lN 0)]))] H := hP
  have hD : va_D A [(h, .inr (2, [.int (nI z), .int (nI n), .int (nI g), .long (lN 0), .long (lN 0), .long (lN 0), .long (lN 0), .long (lN 0)]))] := hD
  refine lv_iconst (v := nI 0) hx hb dX4_begin_40 (by decide) ?_
  refine lv_istore (lv' := [(4, .int (nI 0)), (0, .ref h), (1, .int (nI z)), (2, .int (nI n)), (3, .int (nI g))]) hx hb dX4_begin_41 hl (by decide) rfl (fun ls hl => ?_)
  have loop43 : ∀ (N_ : Nat) (i : Nat) (hi : i ≤ n) (hf : n < i + N_), ∀ (H : Heap) (locs : List Loc), va_P D vwCl [(h, .inr (2, [.int (nI z), .int (nI n), .int (nI g), .long (lN 0), .long (lN 0), .long (lN i), .long (lN 0), .long (lN 0)]))] H → va_D A [(h, .inr (2, [.int (nI z), .int (nI n), .int (nI g), .long (lN 0), .long (lN 0), .long (lN i), .long (lN 0), .long (lN 0)]))] → va_S A s_.heap H locs → ∀ (ls : Array Slot), lv_has ls 5 [(4, .int (nI i)), (0, .ref h)] → W p_ l e_ ({ frames := 1, cells := 0, slots := 0, locals := 22 }) s_ m_ ([.ref h, .int (nI z), .int (nI n), .int (nI g)]).toArray below_ meth_ c_ H locs 0 0 (MQ below_ (uQA D ca A (one none [(h, .inr (2, cS (begS z n g)))])) ([.ref h, .int (nI z), .int (nI n), .int (nI g)]).toArray s_ 0 0 A) (F0 m_ 43 ls []) := by
    intro N_
    induction N_ with
    | zero => intro i hi hf; exfalso; omega
    | succ N_ ih43 =>
      intro i hi hf H locs hP hD hS ls hl
      refine lv_iload hx hb dX4_begin_43 (lv_at hl 0 rfl) ?_
      refine lv_aload_n hx hb dX4_begin_45 rfl (lv_at hl 1 rfl) ?_
      refine va_get (D := D) (ci := 2) (v := .int (nI n)) (C := RX4) (T := TX4) (N := 8) hx hb hts hinX40 hown hK.1 hP 0 rfl rfl 1 (by decide) (hts (.fieldLink RX4 15 "RenamingGrid$State" "processes" "I") (List.mem_of_getElem? (i := 2) rfl)) (fun _ h9 => h9) rfl dX4_begin_46 ?_
      refine n_ic_ge (tgt := 70) hx hb dX4_begin_49 (by decide) (by omega) (by omega) (fun c49 => ?_) (fun c49 => ?_)
      · exact uRetV hx hb hr hlocks hK hP hD hS ⟨rfl, by rw [show i = n by omega]; rfl⟩ (Nat.le_of_ble_eq_true rfl) (Nat.le_of_ble_eq_true rfl) dX4_begin_70
      · refine lv_aload_n hx hb dX4_begin_52 rfl (lv_at hl 1 rfl) ?_
        refine lv_aload_n hx hb dX4_begin_53 rfl (lv_at hl 1 rfl) ?_
        refine va_get (D := D) (ci := 2) (v := .long (lN i)) (C := RX4) (T := TX4) (N := 8) hx hb hts hinX40 hown hK.1 hP 0 rfl rfl 5 (by decide) (hts (.fieldLink RX4 28 "RenamingGrid$State" "entries" "J") (List.mem_of_getElem? (i := 6) rfl)) (fun _ h9 => h9) rfl dX4_begin_54 ?_
        refine lv_iconst (v := nI 0) hx hb dX4_begin_57 (by decide) ?_
        refine rdS (nL := 5) hx hb hml hown hts hK hP [.long (lN i), .int (nI 0)] [.ref h] (c_X1_withOneMore l D ca i 0 (by decide)) gX4_begin_X1_withOneMore rfl qX1_withOneMore ⟨Nat.le_of_ble_eq_true rfl, Nat.le_of_ble_eq_true rfl⟩ [] rfl rfl hl.1 (Nat.le_of_ble_eq_true rfl) ⟨Nat.le_of_ble_eq_true rfl, Nat.le_of_ble_eq_true rfl⟩ dX4_begin_58 ?_
        rw [show (lN (i + 2 ^ (6 * 0))) = (lN (i + 1)) from rfl]
        refine va_put (D := D) (ci := 2) (v := .long (lN (i + 1))) (ty := tyX4 5) (C := RX4) (T := TX4) (N := 8) hx hb hts hinX40 tyX4 tyX4_ok nmX4 hown hK.1 hP hD hS 0 rfl rfl 5 (by decide) (hts (.fieldLink RX4 28 "RenamingGrid$State" "entries" "J") (List.mem_of_getElem? (i := 6) rfl)) (fun _ h9 => h9) rfl (tyX4_ok 5 (by decide)) rfl rfl (Nat.le_of_ble_eq_true rfl) dX4_begin_61 (fun H locs hP hD hS => ?_)
        have hP : va_P D vwCl [(h, .inr (2, [.int (nI z), .int (nI n), .int (nI g), .long (lN 0), .long (lN 0), .long (lN (i + 1)), .long (lN 0), .long (lN 0)]))] H := hP
        have hD : va_D A [(h, .inr (2, [.int (nI z), .int (nI n), .int (nI g), .long (lN 0), .long (lN 0), .long (lN (i + 1)), .long (lN 0), .long (lN 0)]))] := hD
        refine lv_iinc (v := (nI (i + 1))) (lv' := [(4, .int (nI (i + 1))), (0, .ref h)]) hx hb dX4_begin_64 hl (k := 0) rfl (show nI i + Int32.ofInt 1 = nI (i + 1) from nI_add _ 1) (by decide) rfl (fun ls hl => ?_)
        refine lv_goto (tgt := 43) hx hb dX4_begin_67 (by decide) ?_
        exact ih43 (i + 1) (by omega) (by omega) H locs hP hD hS ls (lv_sub hl [0, 1] rfl)
  exact loop43 (n + 1) 0 (by omega) (by omega) _ _ hP hD hS ls (lv_sub hl [0, 1] rfl)

set_option maxHeartbeats 4000000 in
set_option maxRecDepth 100000 in
theorem c_X4_copyFrom (l : Launch) (D : va_G) (ca : Nat → ClassId) (h o : Nat) (S Z : Nat → Nat) : UP l D ca yX4_copyFrom wsX4_copyFrom 0 0 0 0 [(h, .inr (2, cS S)), (o, .inr (2, cS Z))] [.ref h, .ref o] (one none [(h, .inr (2, cS Z)), (o, .inr (2, cS Z))]) := by
  refine UP.start (cc := cX4_copyFrom) (maxL := 2) (ret := none) (by decide) rfl (Nat.le_of_ble_eq_true rfl) ?_
  intro p_ e_ s_ m_ below_ meth_ c_ A hx hb hml hr hlocks hin hown hts hK hA hP hD hS ls hl
  have hown : s_.vm.findClass RX4 = some m_.cls := hown
  have hl : lv_has ls 2 [(0, .ref h), (1, .ref o)] := hl
  have hinX40 : ∀ w ∈ wsX40, w ∈ wsX4_copyFrom := fun w h => List.mem_cons_of_mem _ (List.mem_append_right _ h)
  refine lv_aload_n hx hb dX4_copyFrom_0 rfl (lv_at hl 0 rfl) ?_
  refine lv_aload_n hx hb dX4_copyFrom_1 rfl (lv_at hl 1 rfl) ?_
  refine va_get (D := D) (ci := 2) (v := .int (nI (Z 0))) (C := RX4) (T := TX4) (N := 8) hx hb hts hinX40 hown hK.1 hP 1 rfl rfl 0 (by decide) (hts (.fieldLink RX4 9 "RenamingGrid$State" "size" "I") (List.mem_of_getElem? (i := 1) rfl)) (fun _ h9 => h9) rfl dX4_copyFrom_2 ?_
  refine va_put (D := D) (ci := 2) (v := .int (nI (Z 0))) (ty := tyX4 0) (C := RX4) (T := TX4) (N := 8) hx hb hts hinX40 tyX4 tyX4_ok nmX4 hown hK.1 hP hD hS 0 rfl rfl 0 (by decide) (hts (.fieldLink RX4 9 "RenamingGrid$State" "size" "I") (List.mem_of_getElem? (i := 1) rfl)) (fun _ h9 => h9) rfl (tyX4_ok 0 (by decide)) rfl rfl (Nat.le_of_ble_eq_true rfl) dX4_copyFrom_5 (fun H locs hP hD hS => ?_)
  have hP : va_P D vwCl [(h, .inr (2, [.int (nI (Z 0)), .int (nI (S 1)), .int (nI (S 2)), .long (lN (S 3)), .long (lN (S 4)), .long (lN (S 5)), .long (lN (S 6)), .long (lN (S 7))])), (o, .inr (2, cS Z))] H := hP
  have hD : va_D A [(h, .inr (2, [.int (nI (Z 0)), .int (nI (S 1)), .int (nI (S 2)), .long (lN (S 3)), .long (lN (S 4)), .long (lN (S 5)), .long (lN (S 6)), .long (lN (S 7))])), (o, .inr (2, cS Z))] := hD
  refine lv_aload_n hx hb dX4_copyFrom_8 rfl (lv_at hl 0 rfl) ?_
  refine lv_aload_n hx hb dX4_copyFrom_9 rfl (lv_at hl 1 rfl) ?_
  refine va_get (D := D) (ci := 2) (v := .int (nI (Z 1))) (C := RX4) (T := TX4) (N := 8) hx hb hts hinX40 hown hK.1 hP 1 rfl rfl 1 (by decide) (hts (.fieldLink RX4 15 "RenamingGrid$State" "processes" "I") (List.mem_of_getElem? (i := 2) rfl)) (fun _ h9 => h9) rfl dX4_copyFrom_10 ?_
  refine va_put (D := D) (ci := 2) (v := .int (nI (Z 1))) (ty := tyX4 1) (C := RX4) (T := TX4) (N := 8) hx hb hts hinX40 tyX4 tyX4_ok nmX4 hown hK.1 hP hD hS 0 rfl rfl 1 (by decide) (hts (.fieldLink RX4 15 "RenamingGrid$State" "processes" "I") (List.mem_of_getElem? (i := 2) rfl)) (fun _ h9 => h9) rfl (tyX4_ok 1 (by decide)) rfl rfl (Nat.le_of_ble_eq_true rfl) dX4_copyFrom_13 (fun H locs hP hD hS => ?_)
  have hP : va_P D vwCl [(h, .inr (2, [.int (nI (Z 0)), .int (nI (Z 1)), .int (nI (S 2)), .long (lN (S 3)), .long (lN (S 4)), .long (lN (S 5)), .long (lN (S 6)), .long (lN (S 7))])), (o, .inr (2, cS Z))] H := hP
  have hD : va_D A [(h, .inr (2, [.int (nI (Z 0)), .int (nI (Z 1)), .int (nI (S 2)), .long (lN (S 3)), .long (lN (S 4)), .long (lN (S 5)), .long (lN (S 6)), .long (lN (S 7))])), (o, .inr (2, cS Z))] := hD
  refine lv_aload_n hx hb dX4_copyFrom_16 rfl (lv_at hl 0 rfl) ?_
  refine lv_aload_n hx hb dX4_copyFrom_17 rfl (lv_at hl 1 rfl) ?_
  refine va_get (D := D) (ci := 2) (v := .int (nI (Z 2))) (C := RX4) (T := TX4) (N := 8) hx hb hts hinX40 hown hK.1 hP 1 rfl rfl 2 (by decide) (hts (.fieldLink RX4 18 "RenamingGrid$State" "program" "I") (List.mem_of_getElem? (i := 3) rfl)) (fun _ h9 => h9) rfl dX4_copyFrom_18 ?_
  refine va_put (D := D) (ci := 2) (v := .int (nI (Z 2))) (ty := tyX4 2) (C := RX4) (T := TX4) (N := 8) hx hb hts hinX40 tyX4 tyX4_ok nmX4 hown hK.1 hP hD hS 0 rfl rfl 2 (by decide) (hts (.fieldLink RX4 18 "RenamingGrid$State" "program" "I") (List.mem_of_getElem? (i := 3) rfl)) (fun _ h9 => h9) rfl (tyX4_ok 2 (by decide)) rfl rfl (Nat.le_of_ble_eq_true rfl) dX4_copyFrom_21 (fun H locs hP hD hS => ?_)
  have hP : va_P D vwCl [(h, .inr (2, [.int (nI (Z 0)), .int (nI (Z 1)), .int (nI (Z 2)), .long (lN (S 3)), .long (lN (S 4)), .long (lN (S 5)), .long (lN (S 6)), .long (lN (S 7))])), (o, .inr (2, cS Z))] H := hP
  have hD : va_D A [(h, .inr (2, [.int (nI (Z 0)), .int (nI (Z 1)), .int (nI (Z 2)), .long (lN (S 3)), .long (lN (S 4)), .long (lN (S 5)), .long (lN (S 6)), .long (lN (S 7))])), (o, .inr (2, cS Z))] := hD
  refine lv_aload_n hx hb dX4_copyFrom_24 rfl (lv_at hl 0 rfl) ?_
  refine lv_aload_n hx hb dX4_copyFrom_25 rfl (lv_at hl 1 rfl) ?_
  refine va_get (D := D) (ci := 2) (v := .long (lN (Z 3))) (C := RX4) (T := TX4) (N := 8) hx hb hts hinX40 hown hK.1 hP 1 rfl rfl 3 (by decide) (hts (.fieldLink RX4 21 "RenamingGrid$State" "configuration" "J") (List.mem_of_getElem? (i := 4) rfl)) (fun _ h9 => h9) rfl dX4_copyFrom_26 ?_
  refine va_put (D := D) (ci := 2) (v := .long (lN (Z 3))) (ty := tyX4 3) (C := RX4) (T := TX4) (N := 8) hx hb hts hinX40 tyX4 tyX4_ok nmX4 hown hK.1 hP hD hS 0 rfl rfl 3 (by decide) (hts (.fieldLink RX4 21 "RenamingGrid$State" "configuration" "J") (List.mem_of_getElem? (i := 4) rfl)) (fun _ h9 => h9) rfl (tyX4_ok 3 (by decide)) rfl rfl (Nat.le_of_ble_eq_true rfl) dX4_copyFrom_29 (fun H locs hP hD hS => ?_)
  have hP : va_P D vwCl [(h, .inr (2, [.int (nI (Z 0)), .int (nI (Z 1)), .int (nI (Z 2)), .long (lN (Z 3)), .long (lN (S 4)), .long (lN (S 5)), .long (lN (S 6)), .long (lN (S 7))])), (o, .inr (2, cS Z))] H := hP
  have hD : va_D A [(h, .inr (2, [.int (nI (Z 0)), .int (nI (Z 1)), .int (nI (Z 2)), .long (lN (Z 3)), .long (lN (S 4)), .long (lN (S 5)), .long (lN (S 6)), .long (lN (S 7))])), (o, .inr (2, cS Z))] := hD
  refine lv_aload_n hx hb dX4_copyFrom_32 rfl (lv_at hl 0 rfl) ?_
  refine lv_aload_n hx hb dX4_copyFrom_33 rfl (lv_at hl 1 rfl) ?_
  refine va_get (D := D) (ci := 2) (v := .long (lN (Z 4))) (C := RX4) (T := TX4) (N := 8) hx hb hts hinX40 hown hK.1 hP 1 rfl rfl 4 (by decide) (hts (.fieldLink RX4 25 "RenamingGrid$State" "stepsMade" "J") (List.mem_of_getElem? (i := 5) rfl)) (fun _ h9 => h9) rfl dX4_copyFrom_34 ?_
  refine va_put (D := D) (ci := 2) (v := .long (lN (Z 4))) (ty := tyX4 4) (C := RX4) (T := TX4) (N := 8) hx hb hts hinX40 tyX4 tyX4_ok nmX4 hown hK.1 hP hD hS 0 rfl rfl 4 (by decide) (hts (.fieldLink RX4 25 "RenamingGrid$State" "stepsMade" "J") (List.mem_of_getElem? (i := 5) rfl)) (fun _ h9 => h9) rfl (tyX4_ok 4 (by decide)) rfl rfl (Nat.le_of_ble_eq_true rfl) dX4_copyFrom_37 (fun H locs hP hD hS => ?_)
  have hP : va_P D vwCl [(h, .inr (2, [.int (nI (Z 0)), .int (nI (Z 1)), .int (nI (Z 2)), .long (lN (Z 3)), .long (lN (Z 4)), .long (lN (S 5)), .long (lN (S 6)), .long (lN (S 7))])), (o, .inr (2, cS Z))] H := hP
  have hD : va_D A [(h, .inr (2, [.int (nI (Z 0)), .int (nI (Z 1)), .int (nI (Z 2)), .long (lN (Z 3)), .long (lN (Z 4)), .long (lN (S 5)), .long (lN (S 6)), .long (lN (S 7))])), (o, .inr (2, cS Z))] := hD
  refine lv_aload_n hx hb dX4_copyFrom_40 rfl (lv_at hl 0 rfl) ?_
  refine lv_aload_n hx hb dX4_copyFrom_41 rfl (lv_at hl 1 rfl) ?_
  refine va_get (D := D) (ci := 2) (v := .long (lN (Z 5))) (C := RX4) (T := TX4) (N := 8) hx hb hts hinX40 hown hK.1 hP 1 rfl rfl 5 (by decide) (hts (.fieldLink RX4 28 "RenamingGrid$State" "entries" "J") (List.mem_of_getElem? (i := 6) rfl)) (fun _ h9 => h9) rfl dX4_copyFrom_42 ?_
  refine va_put (D := D) (ci := 2) (v := .long (lN (Z 5))) (ty := tyX4 5) (C := RX4) (T := TX4) (N := 8) hx hb hts hinX40 tyX4 tyX4_ok nmX4 hown hK.1 hP hD hS 0 rfl rfl 5 (by decide) (hts (.fieldLink RX4 28 "RenamingGrid$State" "entries" "J") (List.mem_of_getElem? (i := 6) rfl)) (fun _ h9 => h9) rfl (tyX4_ok 5 (by decide)) rfl rfl (Nat.le_of_ble_eq_true rfl) dX4_copyFrom_45 (fun H locs hP hD hS => ?_)
  have hP : va_P D vwCl [(h, .inr (2, [.int (nI (Z 0)), .int (nI (Z 1)), .int (nI (Z 2)), .long (lN (Z 3)), .long (lN (Z 4)), .long (lN (Z 5)), .long (lN (S 6)), .long (lN (S 7))])), (o, .inr (2, cS Z))] H := hP
  have hD : va_D A [(h, .inr (2, [.int (nI (Z 0)), .int (nI (Z 1)), .int (nI (Z 2)), .long (lN (Z 3)), .long (lN (Z 4)), .long (lN (Z 5)), .long (lN (S 6)), .long (lN (S 7))])), (o, .inr (2, cS Z))] := hD
  refine lv_aload_n hx hb dX4_copyFrom_48 rfl (lv_at hl 0 rfl) ?_
  refine lv_aload_n hx hb dX4_copyFrom_49 rfl (lv_at hl 1 rfl) ?_
  refine va_get (D := D) (ci := 2) (v := .long (lN (Z 6))) (C := RX4) (T := TX4) (N := 8) hx hb hts hinX40 hown hK.1 hP 1 rfl rfl 6 (by decide) (hts (.fieldLink RX4 31 "RenamingGrid$State" "rightExits" "J") (List.mem_of_getElem? (i := 7) rfl)) (fun _ h9 => h9) rfl dX4_copyFrom_50 ?_
  refine va_put (D := D) (ci := 2) (v := .long (lN (Z 6))) (ty := tyX4 6) (C := RX4) (T := TX4) (N := 8) hx hb hts hinX40 tyX4 tyX4_ok nmX4 hown hK.1 hP hD hS 0 rfl rfl 6 (by decide) (hts (.fieldLink RX4 31 "RenamingGrid$State" "rightExits" "J") (List.mem_of_getElem? (i := 7) rfl)) (fun _ h9 => h9) rfl (tyX4_ok 6 (by decide)) rfl rfl (Nat.le_of_ble_eq_true rfl) dX4_copyFrom_53 (fun H locs hP hD hS => ?_)
  have hP : va_P D vwCl [(h, .inr (2, [.int (nI (Z 0)), .int (nI (Z 1)), .int (nI (Z 2)), .long (lN (Z 3)), .long (lN (Z 4)), .long (lN (Z 5)), .long (lN (Z 6)), .long (lN (S 7))])), (o, .inr (2, cS Z))] H := hP
  have hD : va_D A [(h, .inr (2, [.int (nI (Z 0)), .int (nI (Z 1)), .int (nI (Z 2)), .long (lN (Z 3)), .long (lN (Z 4)), .long (lN (Z 5)), .long (lN (Z 6)), .long (lN (S 7))])), (o, .inr (2, cS Z))] := hD
  refine lv_aload_n hx hb dX4_copyFrom_56 rfl (lv_at hl 0 rfl) ?_
  refine lv_aload_n hx hb dX4_copyFrom_57 rfl (lv_at hl 1 rfl) ?_
  refine va_get (D := D) (ci := 2) (v := .long (lN (Z 7))) (C := RX4) (T := TX4) (N := 8) hx hb hts hinX40 hown hK.1 hP 1 rfl rfl 7 (by decide) (hts (.fieldLink RX4 34 "RenamingGrid$State" "downExits" "J") (List.mem_of_getElem? (i := 8) rfl)) (fun _ h9 => h9) rfl dX4_copyFrom_58 ?_
  refine va_put (D := D) (ci := 2) (v := .long (lN (Z 7))) (ty := tyX4 7) (C := RX4) (T := TX4) (N := 8) hx hb hts hinX40 tyX4 tyX4_ok nmX4 hown hK.1 hP hD hS 0 rfl rfl 7 (by decide) (hts (.fieldLink RX4 34 "RenamingGrid$State" "downExits" "J") (List.mem_of_getElem? (i := 8) rfl)) (fun _ h9 => h9) rfl (tyX4_ok 7 (by decide)) rfl rfl (Nat.le_of_ble_eq_true rfl) dX4_copyFrom_61 (fun H locs hP hD hS => ?_)
  have hP : va_P D vwCl [(h, .inr (2, [.int (nI (Z 0)), .int (nI (Z 1)), .int (nI (Z 2)), .long (lN (Z 3)), .long (lN (Z 4)), .long (lN (Z 5)), .long (lN (Z 6)), .long (lN (Z 7))])), (o, .inr (2, cS Z))] H := hP
  have hD : va_D A [(h, .inr (2, [.int (nI (Z 0)), .int (nI (Z 1)), .int (nI (Z 2)), .long (lN (Z 3)), .long (lN (Z 4)), .long (lN (Z 5)), .long (lN (Z 6)), .long (lN (Z 7))])), (o, .inr (2, cS Z))] := hD
  exact uRetV hx hb hr hlocks hK hP hD hS ⟨rfl, rfl⟩ (Nat.le_of_ble_eq_true rfl) (Nat.le_of_ble_eq_true rfl) dX4_copyFrom_64

set_option maxHeartbeats 4000000 in
set_option maxRecDepth 100000 in
theorem c_X4_names (l : Launch) (D : va_G) (ca : Nat → ClassId) (h : Nat) (S : Nat → Nat) (h4 : S 0 ≤ 4) : RD l D ca yX4_names wsX4_names 0 0 [(h, .inr (2, cS S))] [.ref h] (.int (nI (S 0 * (S 0 + 1) / 2))) := by
  refine RD.start (cc := cX4_names) (maxL := 1) (ret := (some .int)) (by decide) rfl (Nat.le_of_ble_eq_true rfl) ?_
  intro p_ e_ s_ m_ below_ meth_ c_ hx hb hml hr hlocks hown hts hP hK ls hl
  have hown : s_.vm.findClass RX4 = some m_.cls := hown
  have hl : lv_has ls 1 [(0, .ref h)] := hl
  have hinX40 : ∀ w ∈ wsX40, w ∈ wsX4_names := fun w h => List.mem_cons_of_mem _ (List.mem_append_right _ h)
  have hmul : S 0 * (S 0 + 1) ≤ 4 * 5 := Nat.mul_le_mul h4 (by omega)
  refine lv_aload_n hx hb dX4_names_0 rfl (lv_at hl 0 rfl) ?_
  refine va_get (D := D) (ci := 2) (v := .int (nI (S 0))) (C := RX4) (T := TX4) (N := 8) hx hb hts hinX40 hown hK.1 hP 0 rfl rfl 0 (by decide) (hts (.fieldLink RX4 9 "RenamingGrid$State" "size" "I") (List.mem_of_getElem? (i := 1) rfl)) (fun _ h9 => h9) rfl dX4_names_1 ?_
  refine lv_aload_n hx hb dX4_names_4 rfl (lv_at hl 0 rfl) ?_
  refine va_get (D := D) (ci := 2) (v := .int (nI (S 0))) (C := RX4) (T := TX4) (N := 8) hx hb hts hinX40 hown hK.1 hP 0 rfl rfl 0 (by decide) (hts (.fieldLink RX4 9 "RenamingGrid$State" "size" "I") (List.mem_of_getElem? (i := 1) rfl)) (fun _ h9 => h9) rfl dX4_names_5 ?_
  refine lv_iconst (v := nI 1) hx hb dX4_names_8 (by decide) ?_
  refine n_iadd hx hb dX4_names_9 ?_
  refine n_imul hx hb dX4_names_10 ?_
  refine lv_iconst (v := nI 2) hx hb dX4_names_11 (by decide) ?_
  refine n_idiv hx hb (by omega) (by omega) (by omega) dX4_names_12 ?_
  exact rRetI hx hb hr hlocks rfl dX4_names_13

set_option maxHeartbeats 4000000 in
set_option maxRecDepth 100000 in
theorem c_X4_hasProcess (l : Launch) (D : va_G) (ca : Nat → ClassId) (h : Nat) (S : Nat → Nat) (q : Int32) : RD l D ca yX4_hasProcess wsX4_hasProcess 0 0 [(h, .inr (2, cS S))] [.ref h, .int q] (.int (nI (bN (decide (inR (S 1) q))))) := by
  refine RD.start (cc := cX4_hasProcess) (maxL := 2) (ret := (some .boolean)) (by decide) rfl (Nat.le_of_ble_eq_true rfl) ?_
  intro p_ e_ s_ m_ below_ meth_ c_ hx hb hml hr hlocks hown hts hP hK ls hl
  have hown : s_.vm.findClass RX4 = some m_.cls := hown
  have hl : lv_has ls 2 [(0, .ref h), (1, .int q)] := hl
  have hinX40 : ∀ w ∈ wsX40, w ∈ wsX4_hasProcess := fun w h => List.mem_cons_of_mem _ (List.mem_append_right _ h)
  refine lv_iload_n hx hb dX4_hasProcess_0 rfl (lv_at hl 1 rfl) ?_
  refine lv_if_lt (tgt := 16) hx hb dX4_hasProcess_1 (by decide) (fun c1 => ?_) (fun c1 => ?_)
  · refine lv_iconst (v := nI 0) hx hb dX4_hasProcess_16 (by decide) ?_
    exact rRetZ hx hb hr hlocks rfl (congrArg (fun z => Value.int (nI z)) (by symm; first | exact bN_t ⟨c1, c9⟩ | exact bN_f (fun z => z.1 c1) | exact bN_f (fun z => z.2 c9))) dX4_hasProcess_17
  · refine lv_iload_n hx hb dX4_hasProcess_4 rfl (lv_at hl 1 rfl) ?_
    refine lv_aload_n hx hb dX4_hasProcess_5 rfl (lv_at hl 0 rfl) ?_
    refine va_get (D := D) (ci := 2) (v := .int (nI (S 1))) (C := RX4) (T := TX4) (N := 8) hx hb hts hinX40 hown hK.1 hP 0 rfl rfl 1 (by decide) (hts (.fieldLink RX4 15 "RenamingGrid$State" "processes" "I") (List.mem_of_getElem? (i := 1) rfl)) (fun _ h9 => h9) rfl dX4_hasProcess_6 ?_
    refine lv_icmp_ge (tgt := 16) hx hb dX4_hasProcess_9 (by decide) (fun c9 => ?_) (fun c9 => ?_)
    · refine lv_iconst (v := nI 0) hx hb dX4_hasProcess_16 (by decide) ?_
      exact rRetZ hx hb hr hlocks rfl (congrArg (fun z => Value.int (nI z)) (by symm; first | exact bN_t ⟨c1, c9⟩ | exact bN_f (fun z => z.1 c1) | exact bN_f (fun z => z.2 c9))) dX4_hasProcess_17
    · refine lv_iconst (v := nI 1) hx hb dX4_hasProcess_12 (by decide) ?_
      refine lv_goto (tgt := 17) hx hb dX4_hasProcess_13 (by decide) ?_
      exact rRetZ hx hb hr hlocks rfl (congrArg (fun z => Value.int (nI z)) (by symm; first | exact bN_t ⟨c1, c9⟩ | exact bN_f (fun z => z.1 c1) | exact bN_f (fun z => z.2 c9))) dX4_hasProcess_17

set_option maxHeartbeats 4000000 in
set_option maxRecDepth 100000 in
theorem c_X4_hasSplitter (l : Launch) (D : va_G) (ca : Nat → ClassId) (h : Nat) (S : Nat → Nat) (q : Int32) (h4 : S 0 ≤ 4) : RD l D ca yX4_hasSplitter wsX4_hasSplitter 1 20 [(h, .inr (2, cS S))] [.ref h, .int q] (.int (nI (bN (decide (inR (S 0 * (S 0 + 1) / 2) q))))) := by
  refine RD.start (cc := cX4_hasSplitter) (maxL := 2) (ret := (some .boolean)) (by decide) rfl (Nat.le_of_ble_eq_true rfl) ?_
  intro p_ e_ s_ m_ below_ meth_ c_ hx hb hml hr hlocks hown hts hP hK ls hl
  have hown : s_.vm.findClass RX4 = some m_.cls := hown
  have hl : lv_has ls 2 [(0, .ref h), (1, .int q)] := hl
  have hinX40 : ∀ w ∈ wsX40, w ∈ wsX4_hasSplitter := fun w h => List.mem_cons_of_mem _ (List.mem_append_right _ h)
  refine lv_iload_n hx hb dX4_hasSplitter_0 rfl (lv_at hl 1 rfl) ?_
  refine lv_if_lt (tgt := 16) hx hb dX4_hasSplitter_1 (by decide) (fun c1 => ?_) (fun c1 => ?_)
  · refine lv_iconst (v := nI 0) hx hb dX4_hasSplitter_16 (by decide) ?_
    exact rRetZ hx hb hr hlocks rfl (congrArg (fun z => Value.int (nI z)) (by symm; first | exact bN_t ⟨c1, c9⟩ | exact bN_f (fun z => z.1 c1) | exact bN_f (fun z => z.2 c9))) dX4_hasSplitter_17
  · refine lv_iload_n hx hb dX4_hasSplitter_4 rfl (lv_at hl 1 rfl) ?_
    refine lv_aload_n hx hb dX4_hasSplitter_5 rfl (lv_at hl 0 rfl) ?_
    refine rdV (nL := 2) (ci := 2) (q0 := 0) (cq := (RX4, TX4, 8)) hx hb hml hown hts hK hP [] [.int q] (c_X4_names l D ca h S  (by omega)) gX4_hasSplitter_X4_names rfl ⟨rfl, qX4_names⟩ ⟨Nat.le_of_ble_eq_true rfl, Nat.le_of_ble_eq_true rfl⟩ rfl rfl [0] rfl rfl hl.1 (Nat.le_of_ble_eq_true rfl) ⟨Nat.le_of_ble_eq_true rfl, Nat.le_of_ble_eq_true rfl⟩ dX4_hasSplitter_6 ?_
    refine lv_icmp_ge (tgt := 16) hx hb dX4_hasSplitter_9 (by decide) (fun c9 => ?_) (fun c9 => ?_)
    · refine lv_iconst (v := nI 0) hx hb dX4_hasSplitter_16 (by decide) ?_
      exact rRetZ hx hb hr hlocks rfl (congrArg (fun z => Value.int (nI z)) (by symm; first | exact bN_t ⟨c1, c9⟩ | exact bN_f (fun z => z.1 c1) | exact bN_f (fun z => z.2 c9))) dX4_hasSplitter_17
    · refine lv_iconst (v := nI 1) hx hb dX4_hasSplitter_12 (by decide) ?_
      refine lv_goto (tgt := 17) hx hb dX4_hasSplitter_13 (by decide) ?_
      exact rRetZ hx hb hr hlocks rfl (congrArg (fun z => Value.int (nI z)) (by symm; first | exact bN_t ⟨c1, c9⟩ | exact bN_f (fun z => z.1 c1) | exact bN_f (fun z => z.2 c9))) dX4_hasSplitter_17

set_option maxHeartbeats 4000000 in
set_option maxRecDepth 100000 in
theorem c_X4_isRunning (l : Launch) (D : va_G) (ca : Nat → ClassId) (h : Nat) (S : Nat → Nat) (p : Nat) (hC : S 3 < 2 ^ 54) (hp : p < 3) : RD l D ca yX4_isRunning wsX4_isRunning 1 22 [(h, .inr (2, cS S))] [.ref h, .int (nI p)] (.int (nI (bN (decide (stC (S 3) p = 0))))) := by
  refine RD.start (cc := cX4_isRunning) (maxL := 2) (ret := (some .boolean)) (by decide) rfl (Nat.le_of_ble_eq_true rfl) ?_
  intro p_ e_ s_ m_ below_ meth_ c_ hx hb hml hr hlocks hown hts hP hK ls hl
  have hown : s_.vm.findClass RX4 = some m_.cls := hown
  have hl : lv_has ls 2 [(0, .ref h), (1, .int (nI p))] := hl
  have hinX40 : ∀ w ∈ wsX40, w ∈ wsX4_isRunning := fun w h => List.mem_cons_of_mem _ (List.mem_append_right _ h)
  refine lv_aload_n hx hb dX4_isRunning_0 rfl (lv_at hl 0 rfl) ?_
  refine va_get (D := D) (ci := 2) (v := .long (lN (S 3))) (C := RX4) (T := TX4) (N := 8) hx hb hts hinX40 hown hK.1 hP 0 rfl rfl 3 (by decide) (hts (.fieldLink RX4 21 "RenamingGrid$State" "configuration" "J") (List.mem_of_getElem? (i := 1) rfl)) (fun _ h9 => h9) rfl dX4_isRunning_1 ?_
  refine lv_iload_n hx hb dX4_isRunning_4 rfl (lv_at hl 1 rfl) ?_
  refine rdS (nL := 2) hx hb hml hown hts hK hP [.long (lN (S 3)), .int (nI p)] [] (c_X0_statusIn l D ca (S 3) p hC hp) gX4_isRunning_X0_statusIn rfl qX0_statusIn ⟨Nat.le_of_ble_eq_true rfl, Nat.le_of_ble_eq_true rfl⟩ [] rfl rfl hl.1 (Nat.le_of_ble_eq_true rfl) ⟨Nat.le_of_ble_eq_true rfl, Nat.le_of_ble_eq_true rfl⟩ dX4_isRunning_5 ?_
  refine n_if_ne (tgt := 15) hx hb dX4_isRunning_8 (by decide) (stC_b _ _) (fun c8 => ?_) (fun c8 => ?_)
  · refine lv_iconst (v := nI 0) hx hb dX4_isRunning_15 (by decide) ?_
    exact rRetZ hx hb hr hlocks rfl (congrArg (fun z => Value.int (nI z)) (by first | exact (bN_t (by assumption)).symm | exact (bN_f (by assumption)).symm)) dX4_isRunning_16
  · refine lv_iconst (v := nI 1) hx hb dX4_isRunning_11 (by decide) ?_
    refine lv_goto (tgt := 16) hx hb dX4_isRunning_12 (by decide) ?_
    exact rRetZ hx hb hr hlocks rfl (congrArg (fun z => Value.int (nI z)) (by first | exact (bN_t (by assumption)).symm | exact (bN_f (by assumption)).symm)) dX4_isRunning_16

set_option maxHeartbeats 4000000 in
set_option maxRecDepth 100000 in
theorem c_X4_countRunning (l : Launch) (D : va_G) (ca : Nat → ClassId) (h : Nat) (S : Nat → Nat) (hC : S 3 < 2 ^ 54) (hn : S 1 ≤ 3) : RD l D ca yX4_countRunning wsX4_countRunning 2 43 [(h, .inr (2, cS S))] [.ref h] (.int (nI (runC (S 3) (S 1)))) := by
  refine RD.start (cc := cX4_countRunning) (maxL := 3) (ret := (some .int)) (by decide) rfl (Nat.le_of_ble_eq_true rfl) ?_
  intro p_ e_ s_ m_ below_ meth_ c_ hx hb hml hr hlocks hown hts hP hK ls hl
  have hown : s_.vm.findClass RX4 = some m_.cls := hown
  have hl : lv_has ls 3 [(0, .ref h)] := hl
  have hinX40 : ∀ w ∈ wsX40, w ∈ wsX4_countRunning := fun w h => List.mem_cons_of_mem _ (List.mem_append_right _ h)
  refine lv_iconst (v := nI 0) hx hb dX4_countRunning_0 (by decide) ?_
  refine lv_istore_n (lv' := [(1, .int (nI 0)), (0, .ref h)]) hx hb dX4_countRunning_1 rfl hl (by decide) rfl (fun ls hl => ?_)
  refine lv_iconst (v := nI 0) hx hb dX4_countRunning_2 (by decide) ?_
  refine lv_istore_n (lv' := [(2, .int (nI 0)), (1, .int (nI 0)), (0, .ref h)]) hx hb dX4_countRunning_3 rfl hl (by decide) rfl (fun ls hl => ?_)
  have loop4 : ∀ (N_ : Nat) (i : Nat) (r : Nat) (hrr : r = runC (S 3) i) (hi : i ≤ S 1) (hf : S 1 < i + N_), ∀ (ls : Array Slot), lv_has ls 3 [(2, .int (nI i)), (1, .int (nI r)), (0, .ref h)] → W p_ l e_ ({ frames := 2, cells := 0, slots := 0, locals := 43 }) s_ m_ ([.ref h]).toArray below_ meth_ c_ s_.heap [] 0 0 (MQ below_ (k2_QcV (.int (nI (runC (S 3) (S 1))))) ([.ref h]).toArray s_ 0 0 (fun _ => False)) (F0 m_ 4 ls []) := by
    intro N_
    induction N_ with
    | zero => intro i r hrr hi hf; exfalso; omega
    | succ N_ ih4 =>
      intro i r hrr hi hf ls hl
      refine lv_iload_n hx hb dX4_countRunning_4 rfl (lv_at hl 0 rfl) ?_
      refine lv_aload_n hx hb dX4_countRunning_5 rfl (lv_at hl 2 rfl) ?_
      refine va_get (D := D) (ci := 2) (v := .int (nI (S 1))) (C := RX4) (T := TX4) (N := 8) hx hb hts hinX40 hown hK.1 hP 0 rfl rfl 1 (by decide) (hts (.fieldLink RX4 15 "RenamingGrid$State" "processes" "I") (List.mem_of_getElem? (i := 1) rfl)) (fun _ h9 => h9) rfl dX4_countRunning_6 ?_
      refine n_ic_ge (tgt := 29) hx hb dX4_countRunning_9 (by decide) (by omega) (by omega) (fun c9 => ?_) (fun c9 => ?_)
      · refine lv_iload_n hx hb dX4_countRunning_29 rfl (lv_at hl 1 rfl) ?_
        exact rRetI hx hb hr hlocks (congrArg (fun z => Value.int (nI z)) (by rw [hrr, show i = S 1 by omega])) dX4_countRunning_30
      · refine lv_aload_n hx hb dX4_countRunning_12 rfl (lv_at hl 2 rfl) ?_
        refine lv_iload_n hx hb dX4_countRunning_13 rfl (lv_at hl 0 rfl) ?_
        refine rdV (nL := 3) (ci := 2) (q0 := 0) (cq := (RX4, TX4, 8)) hx hb hml hown hts hK hP [.int (nI i)] [] (c_X4_isRunning l D ca h S i hC (by omega)) gX4_countRunning_X4_isRunning rfl ⟨rfl, qX4_isRunning⟩ ⟨Nat.le_of_ble_eq_true rfl, Nat.le_of_ble_eq_true rfl⟩ rfl rfl [0] rfl rfl hl.1 (Nat.le_of_ble_eq_true rfl) ⟨Nat.le_of_ble_eq_true rfl, Nat.le_of_ble_eq_true rfl⟩ dX4_countRunning_14 ?_
        refine n_if_eq (tgt := 23) hx hb dX4_countRunning_17 (by decide) (bN_b _) (fun c17 => ?_) (fun c17 => ?_)
        · rw [bN_0] at c17
          refine lv_iinc (v := (nI (i + 1))) (lv' := [(2, .int (nI (i + 1))), (1, .int (nI r)), (0, .ref h)]) hx hb dX4_countRunning_23 hl (k := 0) rfl (show nI i + Int32.ofInt 1 = nI (i + 1) from nI_add _ 1) (by decide) rfl (fun ls hl => ?_)
          refine lv_goto (tgt := 4) hx hb dX4_countRunning_26 (by decide) ?_
          exact ih4 (i + 1) r (by rw [runC_f c17, hrr]) (by omega) (by omega) ls (lv_sub hl [0, 1, 2] rfl)
        · rw [bN_1] at c17
          refine lv_iinc (v := (nI (r + 1))) (lv' := [(1, .int (nI (r + 1))), (2, .int (nI i)), (0, .ref h)]) hx hb dX4_countRunning_20 hl (k := 1) rfl (show nI r + Int32.ofInt 1 = nI (r + 1) from nI_add _ 1) (by decide) rfl (fun ls hl => ?_)
          refine lv_iinc (v := (nI (i + 1))) (lv' := [(2, .int (nI (i + 1))), (1, .int (nI (r + 1))), (0, .ref h)]) hx hb dX4_countRunning_23 hl (k := 1) rfl (show nI i + Int32.ofInt 1 = nI (i + 1) from nI_add _ 1) (by decide) rfl (fun ls hl => ?_)
          refine lv_goto (tgt := 4) hx hb dX4_countRunning_26 (by decide) ?_
          exact ih4 (i + 1) (r + 1) (by rw [runC_t c17, hrr]) (by omega) (by omega) ls (lv_sub hl [0, 1, 2] rfl)
  exact loop4 (S 1 + 1) 0 0 rfl (by omega) (by omega) ls (lv_sub hl [0, 1, 2] rfl)

set_option maxHeartbeats 4000000 in
set_option maxRecDepth 100000 in
theorem c_X4_markCrashed (l : Launch) (D : va_G) (ca : Nat → ClassId) (h : Nat) (S : Nat → Nat) (p : Nat) (hC : S 3 < 2 ^ 54) (hp : p < 3) : UP l D ca yX4_markCrashed wsX4_markCrashed 1 24 0 0 [(h, .inr (2, cS S))] [.ref h, .int (nI p)] (one none [(h, .inr (2, cS (crsS S p)))]) := by
  refine UP.start (cc := cX4_markCrashed) (maxL := 2) (ret := none) (by decide) rfl (Nat.le_of_ble_eq_true rfl) ?_
  intro p_ e_ s_ m_ below_ meth_ c_ A hx hb hml hr hlocks hin hown hts hK hA hP hD hS ls hl
  have hown : s_.vm.findClass RX4 = some m_.cls := hown
  have hl : lv_has ls 2 [(0, .ref h), (1, .int (nI p))] := hl
  have hinX40 : ∀ w ∈ wsX40, w ∈ wsX4_markCrashed := fun w h => List.mem_cons_of_mem _ (List.mem_append_right _ h)
  refine lv_aload_n hx hb dX4_markCrashed_0 rfl (lv_at hl 0 rfl) ?_
  refine lv_aload_n hx hb dX4_markCrashed_1 rfl (lv_at hl 0 rfl) ?_
  refine va_get (D := D) (ci := 2) (v := .long (lN (S 3))) (C := RX4) (T := TX4) (N := 8) hx hb hts hinX40 hown hK.1 hP 0 rfl rfl 3 (by decide) (hts (.fieldLink RX4 21 "RenamingGrid$State" "configuration" "J") (List.mem_of_getElem? (i := 1) rfl)) (fun _ h9 => h9) rfl dX4_markCrashed_2 ?_
  refine lv_iload_n hx hb dX4_markCrashed_5 rfl (lv_at hl 1 rfl) ?_
  refine lv_iconst (v := nI 3) hx hb dX4_markCrashed_6 (by decide) ?_
  refine rdS (nL := 2) hx hb hml hown hts hK hP [.long (lN (S 3)), .int (nI p), .int (nI 3)] [.ref h] (c_X0_withStatus l D ca (S 3) p 3 hC hp (by decide)) gX4_markCrashed_X0_withStatus rfl qX0_withStatus ⟨Nat.le_of_ble_eq_true rfl, Nat.le_of_ble_eq_true rfl⟩ [] rfl rfl hl.1 (Nat.le_of_ble_eq_true rfl) ⟨Nat.le_of_ble_eq_true rfl, Nat.le_of_ble_eq_true rfl⟩ dX4_markCrashed_7 ?_
  refine va_put (D := D) (ci := 2) (v := .long (lN (sF (S 3) (8 * p) 2 3))) (ty := tyX4 3) (C := RX4) (T := TX4) (N := 8) hx hb hts hinX40 tyX4 tyX4_ok nmX4 hown hK.1 hP hD hS 0 rfl rfl 3 (by decide) (hts (.fieldLink RX4 21 "RenamingGrid$State" "configuration" "J") (List.mem_of_getElem? (i := 1) rfl)) (fun _ h9 => h9) rfl (tyX4_ok 3 (by decide)) rfl rfl (Nat.le_of_ble_eq_true rfl) dX4_markCrashed_10 (fun H locs hP hD hS => ?_)
  have hP : va_P D vwCl [(h, .inr (2, [.int (nI (S 0)), .int (nI (S 1)), .int (nI (S 2)), .long (lN (sF (S 3) (8 * p) 2 3)), .long (lN (S 4)), .long (lN (S 5)), .long (lN (S 6)), .long (lN (S 7))]))] H := hP
  have hD : va_D A [(h, .inr (2, [.int (nI (S 0)), .int (nI (S 1)), .int (nI (S 2)), .long (lN (sF (S 3) (8 * p) 2 3)), .long (lN (S 4)), .long (lN (S 5)), .long (lN (S 6)), .long (lN (S 7))]))] := hD
  exact uRetV hx hb hr hlocks hK hP hD hS ⟨rfl, rfl⟩ (Nat.le_of_ble_eq_true rfl) (Nat.le_of_ble_eq_true rfl) dX4_markCrashed_13

set_option maxHeartbeats 4000000 in
set_option maxRecDepth 100000 in
theorem c_X4_countExit (l : Launch) (D : va_G) (ca : Nat → ClassId) (h : Nat) (z0 n0 g0 C0 a0 b0 c0 d0 : Nat) (t x : Nat) (ht : t < 10) (hx1 : x < 2) : UP l D ca yX4_countExit wsX4_countExit 1 22 0 0 [(h, .inr (2, [.int (nI z0), .int (nI n0), .int (nI g0), .long (lN C0), .long (lN a0), .long (lN b0), .long (lN c0), .long (lN d0)]))] [.ref h, .int (nI t), .int (nI x)] (one none [(h, .inr (2, [.int (nI z0), .int (nI n0), .int (nI g0), .long (lN C0), .long (lN a0), .long (lN b0), .long (lN (if x = 0 then c0 else c0 + 2 ^ (6 * t))), .long (lN (if x = 0 then d0 + 2 ^ (6 * t) else d0))]))]) := by
  refine UP.start (cc := cX4_countExit) (maxL := 3) (ret := none) (by decide) rfl (Nat.le_of_ble_eq_true rfl) ?_
  intro p_ e_ s_ m_ below_ meth_ c_ A hx hb hml hr hlocks hin hown hts hK hA hP hD hS ls hl
  have hown : s_.vm.findClass RX4 = some m_.cls := hown
  have hl : lv_has ls 3 [(0, .ref h), (1, .int (nI t)), (2, .int (nI x))] := hl
  have hinX40 : ∀ w ∈ wsX40, w ∈ wsX4_countExit := fun w h => List.mem_cons_of_mem _ (List.mem_append_right _ h)
  refine lv_iload_n hx hb dX4_countExit_0 rfl (lv_at hl 2 rfl) ?_
  refine n_if_eq (tgt := 19) hx hb dX4_countExit_1 (by decide) (by omega) (fun c1 => ?_) (fun c1 => ?_)
  · refine lv_aload_n hx hb dX4_countExit_19 rfl (lv_at hl 0 rfl) ?_
    refine lv_aload_n hx hb dX4_countExit_20 rfl (lv_at hl 0 rfl) ?_
    refine va_get (D := D) (ci := 2) (v := .long (lN d0)) (C := RX4) (T := TX4) (N := 8) hx hb hts hinX40 hown hK.1 hP 0 rfl rfl 7 (by decide) (hts (.fieldLink RX4 34 "RenamingGrid$State" "downExits" "J") (List.mem_of_getElem? (i := 2) rfl)) (fun _ h9 => h9) rfl dX4_countExit_21 ?_
    refine lv_iload_n hx hb dX4_countExit_24 rfl (lv_at hl 1 rfl) ?_
    refine rdS (nL := 3) hx hb hml hown hts hK hP [.long (lN d0), .int (nI t)] [.ref h] (c_X1_withOneMore l D ca d0 t ht) gX4_countExit_X1_withOneMore rfl qX1_withOneMore ⟨Nat.le_of_ble_eq_true rfl, Nat.le_of_ble_eq_true rfl⟩ [] rfl rfl hl.1 (Nat.le_of_ble_eq_true rfl) ⟨Nat.le_of_ble_eq_true rfl, Nat.le_of_ble_eq_true rfl⟩ dX4_countExit_25 ?_
    refine va_put (D := D) (ci := 2) (v := .long (lN (d0 + 2 ^ (6 * t)))) (ty := tyX4 7) (C := RX4) (T := TX4) (N := 8) hx hb hts hinX40 tyX4 tyX4_ok nmX4 hown hK.1 hP hD hS 0 rfl rfl 7 (by decide) (hts (.fieldLink RX4 34 "RenamingGrid$State" "downExits" "J") (List.mem_of_getElem? (i := 2) rfl)) (fun _ h9 => h9) rfl (tyX4_ok 7 (by decide)) rfl rfl (Nat.le_of_ble_eq_true rfl) dX4_countExit_28 (fun H locs hP hD hS => ?_)
    have hP : va_P D vwCl [(h, .inr (2, [.int (nI z0), .int (nI n0), .int (nI g0), .long (lN C0), .long (lN a0), .long (lN b0), .long (lN c0), .long (lN (d0 + 2 ^ (6 * t)))]))] H := hP
    have hD : va_D A [(h, .inr (2, [.int (nI z0), .int (nI n0), .int (nI g0), .long (lN C0), .long (lN a0), .long (lN b0), .long (lN c0), .long (lN (d0 + 2 ^ (6 * t)))]))] := hD
    exact uRetV hx hb hr hlocks hK hP hD hS ⟨rfl, by simp [c1]⟩ (Nat.le_of_ble_eq_true rfl) (Nat.le_of_ble_eq_true rfl) dX4_countExit_31
  · refine lv_aload_n hx hb dX4_countExit_4 rfl (lv_at hl 0 rfl) ?_
    refine lv_aload_n hx hb dX4_countExit_5 rfl (lv_at hl 0 rfl) ?_
    refine va_get (D := D) (ci := 2) (v := .long (lN c0)) (C := RX4) (T := TX4) (N := 8) hx hb hts hinX40 hown hK.1 hP 0 rfl rfl 6 (by decide) (hts (.fieldLink RX4 31 "RenamingGrid$State" "rightExits" "J") (List.mem_of_getElem? (i := 1) rfl)) (fun _ h9 => h9) rfl dX4_countExit_6 ?_
    refine lv_iload_n hx hb dX4_countExit_9 rfl (lv_at hl 1 rfl) ?_
    refine rdS (nL := 3) hx hb hml hown hts hK hP [.long (lN c0), .int (nI t)] [.ref h] (c_X1_withOneMore l D ca c0 t ht) gX4_countExit_X1_withOneMore rfl qX1_withOneMore ⟨Nat.le_of_ble_eq_true rfl, Nat.le_of_ble_eq_true rfl⟩ [] rfl rfl hl.1 (Nat.le_of_ble_eq_true rfl) ⟨Nat.le_of_ble_eq_true rfl, Nat.le_of_ble_eq_true rfl⟩ dX4_countExit_10 ?_
    refine va_put (D := D) (ci := 2) (v := .long (lN (c0 + 2 ^ (6 * t)))) (ty := tyX4 6) (C := RX4) (T := TX4) (N := 8) hx hb hts hinX40 tyX4 tyX4_ok nmX4 hown hK.1 hP hD hS 0 rfl rfl 6 (by decide) (hts (.fieldLink RX4 31 "RenamingGrid$State" "rightExits" "J") (List.mem_of_getElem? (i := 1) rfl)) (fun _ h9 => h9) rfl (tyX4_ok 6 (by decide)) rfl rfl (Nat.le_of_ble_eq_true rfl) dX4_countExit_13 (fun H locs hP hD hS => ?_)
    have hP : va_P D vwCl [(h, .inr (2, [.int (nI z0), .int (nI n0), .int (nI g0), .long (lN C0), .long (lN a0), .long (lN b0), .long (lN (c0 + 2 ^ (6 * t))), .long (lN d0)]))] H := hP
    have hD : va_D A [(h, .inr (2, [.int (nI z0), .int (nI n0), .int (nI g0), .long (lN C0), .long (lN a0), .long (lN b0), .long (lN (c0 + 2 ^ (6 * t))), .long (lN d0)]))] := hD
    refine lv_goto (tgt := 31) hx hb dX4_countExit_16 (by decide) ?_
    exact uRetV hx hb hr hlocks hK hP hD hS ⟨rfl, by simp [c1]⟩ (Nat.le_of_ble_eq_true rfl) (Nat.le_of_ble_eq_true rfl) dX4_countExit_31

set_option maxHeartbeats 4000000 in
set_option maxRecDepth 100000 in
theorem c_X4_advance (l : Launch) (D : va_G) (ca : Nat → ClassId) (h : Nat) (S : Nat → Nat) (p : Nat) (hok : SOK S) (hp : p < 3) (hrun : stC (S 3) p = 0) : UP l D ca yX4_advance wsX4_advance 3 82 0 0 [(h, .inr (2, cS S))] [.ref h, .int (nI p)] (one (some (.int (nI (advA S p)))) [(h, .inr (2, cS (advS S p)))]) := by
  refine UP.start (cc := cX4_advance) (maxL := 8) (ret := (some .int)) (by decide) rfl (Nat.le_of_ble_eq_true rfl) ?_
  intro p_ e_ s_ m_ below_ meth_ c_ A hx hb hml hr hlocks hin hown hts hK hA hP hD hS ls hl
  have hown : s_.vm.findClass RX4 = some m_.cls := hown
  have hl : lv_has ls 8 [(0, .ref h), (1, .int (nI p))] := hl
  have hinX40 : ∀ w ∈ wsX40, w ∈ wsX4_advance := fun w h => List.mem_cons_of_mem _ (List.mem_append_right _ h)
  have hC := hok.2.2.2.1
  have hk := hok.1.2
  have hg := hok.2.2.1
  have hs := pOK_sp (hok.2.2.2.2.1 p hp)
  have hN : nxC S p < 2 ^ 54 := stepC_lt hC hp hk hs
  have hs2 : spC (nxC S p) p < 10 := pOK_sp (step_p (g := S 2) hp hok.1.1 hk hrun (hok.2.2.2.2.1 p hp)).1
  refine lv_aload_n hx hb dX4_advance_0 rfl (lv_at hl 0 rfl) ?_
  refine va_get (D := D) (ci := 2) (v := .long (lN (S 3))) (C := RX4) (T := TX4) (N := 8) hx hb hts hinX40 hown hK.1 hP 0 rfl rfl 3 (by decide) (hts (.fieldLink RX4 21 "RenamingGrid$State" "configuration" "J") (List.mem_of_getElem? (i := 1) rfl)) (fun _ h9 => h9) rfl dX4_advance_1 ?_
  refine lv_lstore_n (lv' := [(2, .long (lN (S 3))), (0, .ref h), (1, .int (nI p))]) hx hb dX4_advance_4 rfl hl (by decide) rfl (fun ls hl => ?_)
  refine lv_aload_n hx hb dX4_advance_5 rfl (lv_at hl 1 rfl) ?_
  refine lv_lload_n hx hb dX4_advance_6 rfl (lv_at hl 0 rfl) ?_
  refine lv_iload_n hx hb dX4_advance_7 rfl (lv_at hl 2 rfl) ?_
  refine lv_aload_n hx hb dX4_advance_8 rfl (lv_at hl 1 rfl) ?_
  refine va_get (D := D) (ci := 2) (v := .int (nI (S 0))) (C := RX4) (T := TX4) (N := 8) hx hb hts hinX40 hown hK.1 hP 0 rfl rfl 0 (by decide) (hts (.fieldLink RX4 9 "RenamingGrid$State" "size" "I") (List.mem_of_getElem? (i := 2) rfl)) (fun _ h9 => h9) rfl dX4_advance_9 ?_
  refine lv_aload_n hx hb dX4_advance_12 rfl (lv_at hl 1 rfl) ?_
  refine va_get (D := D) (ci := 2) (v := .int (nI (S 2))) (C := RX4) (T := TX4) (N := 8) hx hb hts hinX40 hown hK.1 hP 0 rfl rfl 2 (by decide) (hts (.fieldLink RX4 18 "RenamingGrid$State" "program" "I") (List.mem_of_getElem? (i := 3) rfl)) (fun _ h9 => h9) rfl dX4_advance_13 ?_
  refine rdS (nL := 8) hx hb hml hown hts hK hP [.long (lN (S 3)), .int (nI p), .int (nI (S 0)), .int (nI (S 2))] [.ref h] (c_X0_afterStep l D ca (S 3) p (S 0) (S 2) hC hp hk hg hs) gX4_advance_X0_afterStep rfl qX0_afterStep ⟨Nat.le_of_ble_eq_true rfl, Nat.le_of_ble_eq_true rfl⟩ [] rfl rfl hl.1 (Nat.le_of_ble_eq_true rfl) ⟨Nat.le_of_ble_eq_true rfl, Nat.le_of_ble_eq_true rfl⟩ dX4_advance_16 ?_
  rw [show stepC (S 3) p (S 0) (S 2) = nxC S p from rfl]
  refine va_put (D := D) (ci := 2) (v := .long (lN (nxC S p))) (ty := tyX4 3) (C := RX4) (T := TX4) (N := 8) hx hb hts hinX40 tyX4 tyX4_ok nmX4 hown hK.1 hP hD hS 0 rfl rfl 3 (by decide) (hts (.fieldLink RX4 21 "RenamingGrid$State" "configuration" "J") (List.mem_of_getElem? (i := 1) rfl)) (fun _ h9 => h9) rfl (tyX4_ok 3 (by decide)) rfl rfl (Nat.le_of_ble_eq_true rfl) dX4_advance_19 (fun H locs hP hD hS => ?_)
  have hP : va_P D vwCl [(h, .inr (2, [.int (nI (S 0)), .int (nI (S 1)), .int (nI (S 2)), .long (lN (nxC S p)), .long (lN (S 4)), .long (lN (S 5)), .long (lN (S 6)), .long (lN (S 7))]))] H := hP
  have hD : va_D A [(h, .inr (2, [.int (nI (S 0)), .int (nI (S 1)), .int (nI (S 2)), .long (lN (nxC S p)), .long (lN (S 4)), .long (lN (S 5)), .long (lN (S 6)), .long (lN (S 7))]))] := hD
  refine lv_aload_n hx hb dX4_advance_22 rfl (lv_at hl 1 rfl) ?_
  refine lv_aload_n hx hb dX4_advance_23 rfl (lv_at hl 1 rfl) ?_
  refine va_get (D := D) (ci := 2) (v := .long (lN (S 4))) (C := RX4) (T := TX4) (N := 8) hx hb hts hinX40 hown hK.1 hP 0 rfl rfl 4 (by decide) (hts (.fieldLink RX4 25 "RenamingGrid$State" "stepsMade" "J") (List.mem_of_getElem? (i := 4) rfl)) (fun _ h9 => h9) rfl dX4_advance_24 ?_
  refine lv_iload_n hx hb dX4_advance_27 rfl (lv_at hl 2 rfl) ?_
  refine rdS (nL := 8) hx hb hml hown hts hK hP [.long (lN (S 4)), .int (nI p)] [.ref h] (c_X1_withOneMore l D ca (S 4) p (by omega)) gX4_advance_X1_withOneMore rfl qX1_withOneMore ⟨Nat.le_of_ble_eq_true rfl, Nat.le_of_ble_eq_true rfl⟩ [] rfl rfl hl.1 (Nat.le_of_ble_eq_true rfl) ⟨Nat.le_of_ble_eq_true rfl, Nat.le_of_ble_eq_true rfl⟩ dX4_advance_28 ?_
  refine va_put (D := D) (ci := 2) (v := .long (lN ((S 4) + 2 ^ (6 * p)))) (ty := tyX4 4) (C := RX4) (T := TX4) (N := 8) hx hb hts hinX40 tyX4 tyX4_ok nmX4 hown hK.1 hP hD hS 0 rfl rfl 4 (by decide) (hts (.fieldLink RX4 25 "RenamingGrid$State" "stepsMade" "J") (List.mem_of_getElem? (i := 4) rfl)) (fun _ h9 => h9) rfl (tyX4_ok 4 (by decide)) rfl rfl (Nat.le_of_ble_eq_true rfl) dX4_advance_31 (fun H locs hP hD hS => ?_)
  have hP : va_P D vwCl [(h, .inr (2, [.int (nI (S 0)), .int (nI (S 1)), .int (nI (S 2)), .long (lN (nxC S p)), .long (lN ((S 4) + 2 ^ (6 * p))), .long (lN (S 5)), .long (lN (S 6)), .long (lN (S 7))]))] H := hP
  have hD : va_D A [(h, .inr (2, [.int (nI (S 0)), .int (nI (S 1)), .int (nI (S 2)), .long (lN (nxC S p)), .long (lN ((S 4) + 2 ^ (6 * p))), .long (lN (S 5)), .long (lN (S 6)), .long (lN (S 7))]))] := hD
  refine lv_aload_n hx hb dX4_advance_34 rfl (lv_at hl 1 rfl) ?_
  refine va_get (D := D) (ci := 2) (v := .long (lN (nxC S p))) (C := RX4) (T := TX4) (N := 8) hx hb hts hinX40 hown hK.1 hP 0 rfl rfl 3 (by decide) (hts (.fieldLink RX4 21 "RenamingGrid$State" "configuration" "J") (List.mem_of_getElem? (i := 1) rfl)) (fun _ h9 => h9) rfl dX4_advance_35 ?_
  refine lv_iload_n hx hb dX4_advance_38 rfl (lv_at hl 2 rfl) ?_
  refine rdS (nL := 8) hx hb hml hown hts hK hP [.long (lN (nxC S p)), .int (nI p)] [] (c_X0_statusIn l D ca (nxC S p) p hN hp) gX4_advance_X0_statusIn rfl qX0_statusIn ⟨Nat.le_of_ble_eq_true rfl, Nat.le_of_ble_eq_true rfl⟩ [] rfl rfl hl.1 (Nat.le_of_ble_eq_true rfl) ⟨Nat.le_of_ble_eq_true rfl, Nat.le_of_ble_eq_true rfl⟩ dX4_advance_39 ?_
  refine lv_istore (lv' := [(4, .int (nI (stC (nxC S p) p))), (2, .long (lN (S 3))), (0, .ref h), (1, .int (nI p))]) hx hb dX4_advance_42 hl (by decide) rfl (fun ls hl => ?_)
  refine lv_iload hx hb dX4_advance_44 (lv_at hl 0 rfl) ?_
  refine lv_iconst (v := nI 1) hx hb dX4_advance_46 (by decide) ?_
  refine n_ic_ne (tgt := 52) hx hb dX4_advance_47 (by decide) (stC_b _ _) (by decide) (fun c47 => ?_) (fun c47 => ?_)
  · refine lv_lload_n hx hb dX4_advance_52 rfl (lv_at hl 1 rfl) ?_
    refine lv_iload_n hx hb dX4_advance_53 rfl (lv_at hl 3 rfl) ?_
    refine rdS (nL := 8) hx hb hml hown hts hK hP [.long (lN (S 3)), .int (nI p)] [] (c_X0_splitterIn l D ca (S 3) p hC hp) gX4_advance_X0_splitterIn rfl qX0_splitterIn ⟨Nat.le_of_ble_eq_true rfl, Nat.le_of_ble_eq_true rfl⟩ [] rfl rfl hl.1 (Nat.le_of_ble_eq_true rfl) ⟨Nat.le_of_ble_eq_true rfl, Nat.le_of_ble_eq_true rfl⟩ dX4_advance_54 ?_
    refine lv_istore (lv' := [(5, .int (nI (spC (S 3) p))), (4, .int (nI (stC (nxC S p) p))), (2, .long (lN (S 3))), (0, .ref h), (1, .int (nI p))]) hx hb dX4_advance_57 hl (by decide) rfl (fun ls hl => ?_)
    refine lv_aload_n hx hb dX4_advance_59 rfl (lv_at hl 3 rfl) ?_
    refine va_get (D := D) (ci := 2) (v := .long (lN (nxC S p))) (C := RX4) (T := TX4) (N := 8) hx hb hts hinX40 hown hK.1 hP 0 rfl rfl 3 (by decide) (hts (.fieldLink RX4 21 "RenamingGrid$State" "configuration" "J") (List.mem_of_getElem? (i := 1) rfl)) (fun _ h9 => h9) rfl dX4_advance_60 ?_
    refine lv_iload_n hx hb dX4_advance_63 rfl (lv_at hl 4 rfl) ?_
    refine rdS (nL := 8) hx hb hml hown hts hK hP [.long (lN (nxC S p)), .int (nI p)] [] (c_X0_splitterIn l D ca (nxC S p) p hN hp) gX4_advance_X0_splitterIn rfl qX0_splitterIn ⟨Nat.le_of_ble_eq_true rfl, Nat.le_of_ble_eq_true rfl⟩ [] rfl rfl hl.1 (Nat.le_of_ble_eq_true rfl) ⟨Nat.le_of_ble_eq_true rfl, Nat.le_of_ble_eq_true rfl⟩ dX4_advance_64 ?_
    refine lv_istore (lv' := [(6, .int (nI (spC (nxC S p) p))), (5, .int (nI (spC (S 3) p))), (4, .int (nI (stC (nxC S p) p))), (2, .long (lN (S 3))), (0, .ref h), (1, .int (nI p))]) hx hb dX4_advance_67 hl (by decide) rfl (fun ls hl => ?_)
    refine lv_iload hx hb dX4_advance_69 (lv_at hl 2 rfl) ?_
    refine n_if_ne (tgt := 83) hx hb dX4_advance_71 (by decide) (stC_b _ _) (fun c71 => ?_) (fun c71 => ?_)
    · refine lv_lload_n hx hb dX4_advance_83 rfl (lv_at hl 3 rfl) ?_
      refine lv_iload_n hx hb dX4_advance_84 rfl (lv_at hl 5 rfl) ?_
      refine rdS (nL := 8) hx hb hml hown hts hK hP [.long (lN (S 3)), .int (nI p)] [] (c_X0_phaseIn l D ca (S 3) p hC hp) gX4_advance_X0_phaseIn rfl qX0_phaseIn ⟨Nat.le_of_ble_eq_true rfl, Nat.le_of_ble_eq_true rfl⟩ [] rfl rfl hl.1 (Nat.le_of_ble_eq_true rfl) ⟨Nat.le_of_ble_eq_true rfl, Nat.le_of_ble_eq_true rfl⟩ dX4_advance_85 ?_
      refine lv_iconst (v := nI 1) hx hb dX4_advance_88 (by decide) ?_
      refine n_ic_ne (tgt := 96) hx hb dX4_advance_89 (by decide) (phC_b _ _) (by decide) (fun c89 => ?_) (fun c89 => ?_)
      · refine lv_iconst (v := nI 0) hx hb dX4_advance_96 (by decide) ?_
        refine lv_istore (lv' := [(7, .int (nI 0)), (6, .int (nI (spC (nxC S p) p))), (5, .int (nI (spC (S 3) p))), (4, .int (nI (stC (nxC S p) p))), (2, .long (lN (S 3))), (0, .ref h), (1, .int (nI p))]) hx hb dX4_advance_97 hl (by decide) rfl (fun ls hl => ?_)
        refine lv_aload_n hx hb dX4_advance_99 rfl (lv_at hl 5 rfl) ?_
        refine lv_iload hx hb dX4_advance_100 (lv_at hl 2 rfl) ?_
        refine lv_iload hx hb dX4_advance_102 (lv_at hl 0 rfl) ?_
        refine uV (nL := 8) (wr := []) (ci := 2) (q0 := 0) (cq := (RX4, TX4, 8)) hx hb hml hown hts hK hA hP hD hS [.int (nI (spC (S 3) p)), .int (nI 0)] [] (c_X4_countExit l D ca h (S 0) (S 1) (S 2) (nxC S p) ((S 4) + 2 ^ (6 * p)) (S 5) (S 6) (S 7) (spC (S 3) p) 0 hs (by decide)) gX4_advance_X4_countExit rfl ⟨rfl, qX4_countExit⟩ ⟨Nat.le_of_ble_eq_true rfl, Nat.le_of_ble_eq_true rfl⟩ rfl rfl [0] [] rfl rfl (by decide) (by decide) rfl hl.1 (Nat.le_of_ble_eq_true rfl) ⟨Nat.le_of_ble_eq_true rfl, Nat.le_of_ble_eq_true rfl⟩ dX4_advance_104 (oneK (wsN := [(h, .inr (2, [.int (nI (S 0)), .int (nI (S 1)), .int (nI (S 2)), .long (lN (nxC S p)), .long (lN ((S 4) + 2 ^ (6 * p))), .long (lN (S 5)), .long (lN (S 6)), .long (lN ((S 7) + 2 ^ (6 * (spC (S 3) p))))]))]) [0] (by decide) rfl (st1 := []) rfl 0 0 rfl rfl (fun H locs hP hD hS => ?_))
        refine lv_iload hx hb dX4_advance_107 (lv_at hl 3 rfl) ?_
        refine lv_iconst (v := nI 2) hx hb dX4_advance_109 (by decide) ?_
        refine n_ic_ne (tgt := 115) hx hb dX4_advance_110 (by decide) (stC_b _ _) (by decide) (fun c110 => ?_) (fun c110 => ?_)
        · refine lv_aload_n hx hb dX4_advance_115 rfl (lv_at hl 5 rfl) ?_
          refine lv_aload_n hx hb dX4_advance_116 rfl (lv_at hl 5 rfl) ?_
          refine va_get (D := D) (ci := 2) (v := .long (lN (S 5))) (C := RX4) (T := TX4) (N := 8) hx hb hts hinX40 hown hK.1 hP 0 rfl rfl 5 (by decide) (hts (.fieldLink RX4 28 "RenamingGrid$State" "entries" "J") (List.mem_of_getElem? (i := 5) rfl)) (fun _ h9 => h9) rfl dX4_advance_117 ?_
          refine lv_iload hx hb dX4_advance_120 (lv_at hl 1 rfl) ?_
          refine rdS (nL := 8) hx hb hml hown hts hK hP [.long (lN (S 5)), .int (nI (spC (nxC S p) p))] [.ref h] (c_X1_withOneMore l D ca (S 5) (spC (nxC S p) p) hs2) gX4_advance_X1_withOneMore rfl qX1_withOneMore ⟨Nat.le_of_ble_eq_true rfl, Nat.le_of_ble_eq_true rfl⟩ [] rfl rfl hl.1 (Nat.le_of_ble_eq_true rfl) ⟨Nat.le_of_ble_eq_true rfl, Nat.le_of_ble_eq_true rfl⟩ dX4_advance_122 ?_
          refine va_put (D := D) (ci := 2) (v := .long (lN ((S 5) + 2 ^ (6 * (spC (nxC S p) p))))) (ty := tyX4 5) (C := RX4) (T := TX4) (N := 8) hx hb hts hinX40 tyX4 tyX4_ok nmX4 hown hK.1 hP hD hS 0 rfl rfl 5 (by decide) (hts (.fieldLink RX4 28 "RenamingGrid$State" "entries" "J") (List.mem_of_getElem? (i := 5) rfl)) (fun _ h9 => h9) rfl (tyX4_ok 5 (by decide)) rfl rfl (Nat.le_of_ble_eq_true rfl) dX4_advance_125 (fun H locs hP hD hS => ?_)
          have hP : va_P D vwCl [(h, .inr (2, [.int (nI (S 0)), .int (nI (S 1)), .int (nI (S 2)), .long (lN (nxC S p)), .long (lN ((S 4) + 2 ^ (6 * p))), .long (lN ((S 5) + 2 ^ (6 * (spC (nxC S p) p)))), .long (lN (S 6)), .long (lN ((S 7) + 2 ^ (6 * (spC (S 3) p))))]))] H := hP
          have hD : va_D A [(h, .inr (2, [.int (nI (S 0)), .int (nI (S 1)), .int (nI (S 2)), .long (lN (nxC S p)), .long (lN ((S 4) + 2 ^ (6 * p))), .long (lN ((S 5) + 2 ^ (6 * (spC (nxC S p) p)))), .long (lN (S 6)), .long (lN ((S 7) + 2 ^ (6 * (spC (S 3) p))))]))] := hD
          refine lv_iload hx hb dX4_advance_128 (lv_at hl 0 rfl) ?_
          refine n_if_eq (tgt := 137) hx hb dX4_advance_130 (by decide) (by decide) (fun _ => ?_) (fun q => absurd q (by decide))
          refine lv_iconst (v := nI 3) hx hb dX4_advance_137 (by decide) ?_
          have hadv : advA S p = 3 := by first | (exfalso; omega) | simp [advA, c47, c71, c89, c110]
          exact uRetI hx hb hr hlocks hK hP hD hS ⟨by rw [hadv], by simp [cS, advS, hadv, c89]⟩ (Nat.le_of_ble_eq_true rfl) (Nat.le_of_ble_eq_true rfl) dX4_advance_138
        · refine lv_iconst (v := nI 4) hx hb dX4_advance_113 (by decide) ?_
          have hadv : advA S p = 4 := by first | (exfalso; omega) | simp [advA, c47, c71, c89, c110]
          exact uRetI hx hb hr hlocks hK hP hD hS ⟨by rw [hadv], by simp [cS, advS, hadv, c89]⟩ (Nat.le_of_ble_eq_true rfl) (Nat.le_of_ble_eq_true rfl) dX4_advance_114
      · refine lv_iconst (v := nI 1) hx hb dX4_advance_92 (by decide) ?_
        refine lv_goto (tgt := 97) hx hb dX4_advance_93 (by decide) ?_
        refine lv_istore (lv' := [(7, .int (nI 1)), (6, .int (nI (spC (nxC S p) p))), (5, .int (nI (spC (S 3) p))), (4, .int (nI (stC (nxC S p) p))), (2, .long (lN (S 3))), (0, .ref h), (1, .int (nI p))]) hx hb dX4_advance_97 hl (by decide) rfl (fun ls hl => ?_)
        refine lv_aload_n hx hb dX4_advance_99 rfl (lv_at hl 5 rfl) ?_
        refine lv_iload hx hb dX4_advance_100 (lv_at hl 2 rfl) ?_
        refine lv_iload hx hb dX4_advance_102 (lv_at hl 0 rfl) ?_
        refine uV (nL := 8) (wr := []) (ci := 2) (q0 := 0) (cq := (RX4, TX4, 8)) hx hb hml hown hts hK hA hP hD hS [.int (nI (spC (S 3) p)), .int (nI 1)] [] (c_X4_countExit l D ca h (S 0) (S 1) (S 2) (nxC S p) ((S 4) + 2 ^ (6 * p)) (S 5) (S 6) (S 7) (spC (S 3) p) 1 hs (by decide)) gX4_advance_X4_countExit rfl ⟨rfl, qX4_countExit⟩ ⟨Nat.le_of_ble_eq_true rfl, Nat.le_of_ble_eq_true rfl⟩ rfl rfl [0] [] rfl rfl (by decide) (by decide) rfl hl.1 (Nat.le_of_ble_eq_true rfl) ⟨Nat.le_of_ble_eq_true rfl, Nat.le_of_ble_eq_true rfl⟩ dX4_advance_104 (oneK (wsN := [(h, .inr (2, [.int (nI (S 0)), .int (nI (S 1)), .int (nI (S 2)), .long (lN (nxC S p)), .long (lN ((S 4) + 2 ^ (6 * p))), .long (lN (S 5)), .long (lN ((S 6) + 2 ^ (6 * (spC (S 3) p)))), .long (lN (S 7))]))]) [0] (by decide) rfl (st1 := []) rfl 0 0 rfl rfl (fun H locs hP hD hS => ?_))
        refine lv_iload hx hb dX4_advance_107 (lv_at hl 3 rfl) ?_
        refine lv_iconst (v := nI 2) hx hb dX4_advance_109 (by decide) ?_
        refine n_ic_ne (tgt := 115) hx hb dX4_advance_110 (by decide) (stC_b _ _) (by decide) (fun c110 => ?_) (fun c110 => ?_)
        · refine lv_aload_n hx hb dX4_advance_115 rfl (lv_at hl 5 rfl) ?_
          refine lv_aload_n hx hb dX4_advance_116 rfl (lv_at hl 5 rfl) ?_
          refine va_get (D := D) (ci := 2) (v := .long (lN (S 5))) (C := RX4) (T := TX4) (N := 8) hx hb hts hinX40 hown hK.1 hP 0 rfl rfl 5 (by decide) (hts (.fieldLink RX4 28 "RenamingGrid$State" "entries" "J") (List.mem_of_getElem? (i := 5) rfl)) (fun _ h9 => h9) rfl dX4_advance_117 ?_
          refine lv_iload hx hb dX4_advance_120 (lv_at hl 1 rfl) ?_
          refine rdS (nL := 8) hx hb hml hown hts hK hP [.long (lN (S 5)), .int (nI (spC (nxC S p) p))] [.ref h] (c_X1_withOneMore l D ca (S 5) (spC (nxC S p) p) hs2) gX4_advance_X1_withOneMore rfl qX1_withOneMore ⟨Nat.le_of_ble_eq_true rfl, Nat.le_of_ble_eq_true rfl⟩ [] rfl rfl hl.1 (Nat.le_of_ble_eq_true rfl) ⟨Nat.le_of_ble_eq_true rfl, Nat.le_of_ble_eq_true rfl⟩ dX4_advance_122 ?_
          refine va_put (D := D) (ci := 2) (v := .long (lN ((S 5) + 2 ^ (6 * (spC (nxC S p) p))))) (ty := tyX4 5) (C := RX4) (T := TX4) (N := 8) hx hb hts hinX40 tyX4 tyX4_ok nmX4 hown hK.1 hP hD hS 0 rfl rfl 5 (by decide) (hts (.fieldLink RX4 28 "RenamingGrid$State" "entries" "J") (List.mem_of_getElem? (i := 5) rfl)) (fun _ h9 => h9) rfl (tyX4_ok 5 (by decide)) rfl rfl (Nat.le_of_ble_eq_true rfl) dX4_advance_125 (fun H locs hP hD hS => ?_)
          have hP : va_P D vwCl [(h, .inr (2, [.int (nI (S 0)), .int (nI (S 1)), .int (nI (S 2)), .long (lN (nxC S p)), .long (lN ((S 4) + 2 ^ (6 * p))), .long (lN ((S 5) + 2 ^ (6 * (spC (nxC S p) p)))), .long (lN ((S 6) + 2 ^ (6 * (spC (S 3) p)))), .long (lN (S 7))]))] H := hP
          have hD : va_D A [(h, .inr (2, [.int (nI (S 0)), .int (nI (S 1)), .int (nI (S 2)), .long (lN (nxC S p)), .long (lN ((S 4) + 2 ^ (6 * p))), .long (lN ((S 5) + 2 ^ (6 * (spC (nxC S p) p)))), .long (lN ((S 6) + 2 ^ (6 * (spC (S 3) p)))), .long (lN (S 7))]))] := hD
          refine lv_iload hx hb dX4_advance_128 (lv_at hl 0 rfl) ?_
          refine n_if_eq (tgt := 137) hx hb dX4_advance_130 (by decide) (by decide) (fun q => absurd q (by decide)) (fun _ => ?_)
          refine lv_iconst (v := nI 2) hx hb dX4_advance_133 (by decide) ?_
          refine lv_goto (tgt := 138) hx hb dX4_advance_134 (by decide) ?_
          have hadv : advA S p = 2 := by first | (exfalso; omega) | simp [advA, c47, c71, c89, c110]
          exact uRetI hx hb hr hlocks hK hP hD hS ⟨by rw [hadv], by simp [cS, advS, hadv, c89]⟩ (Nat.le_of_ble_eq_true rfl) (Nat.le_of_ble_eq_true rfl) dX4_advance_138
        · refine lv_iconst (v := nI 4) hx hb dX4_advance_113 (by decide) ?_
          have hadv : advA S p = 4 := by first | (exfalso; omega) | simp [advA, c47, c71, c89, c110]
          exact uRetI hx hb hr hlocks hK hP hD hS ⟨by rw [hadv], by simp [cS, advS, hadv, c89]⟩ (Nat.le_of_ble_eq_true rfl) (Nat.le_of_ble_eq_true rfl) dX4_advance_114
    · refine lv_iload hx hb dX4_advance_74 (lv_at hl 0 rfl) ?_
      refine lv_iload hx hb dX4_advance_76 (lv_at hl 1 rfl) ?_
      refine n_ic_ne (tgt := 83) hx hb dX4_advance_78 (by decide) (spC_b _ _) (spC_b _ _) (fun c78 => ?_) (fun c78 => ?_)
      · refine lv_lload_n hx hb dX4_advance_83 rfl (lv_at hl 3 rfl) ?_
        refine lv_iload_n hx hb dX4_advance_84 rfl (lv_at hl 5 rfl) ?_
        refine rdS (nL := 8) hx hb hml hown hts hK hP [.long (lN (S 3)), .int (nI p)] [] (c_X0_phaseIn l D ca (S 3) p hC hp) gX4_advance_X0_phaseIn rfl qX0_phaseIn ⟨Nat.le_of_ble_eq_true rfl, Nat.le_of_ble_eq_true rfl⟩ [] rfl rfl hl.1 (Nat.le_of_ble_eq_true rfl) ⟨Nat.le_of_ble_eq_true rfl, Nat.le_of_ble_eq_true rfl⟩ dX4_advance_85 ?_
        refine lv_iconst (v := nI 1) hx hb dX4_advance_88 (by decide) ?_
        refine n_ic_ne (tgt := 96) hx hb dX4_advance_89 (by decide) (phC_b _ _) (by decide) (fun c89 => ?_) (fun c89 => ?_)
        · refine lv_iconst (v := nI 0) hx hb dX4_advance_96 (by decide) ?_
          refine lv_istore (lv' := [(7, .int (nI 0)), (6, .int (nI (spC (nxC S p) p))), (5, .int (nI (spC (S 3) p))), (4, .int (nI (stC (nxC S p) p))), (2, .long (lN (S 3))), (0, .ref h), (1, .int (nI p))]) hx hb dX4_advance_97 hl (by decide) rfl (fun ls hl => ?_)
          refine lv_aload_n hx hb dX4_advance_99 rfl (lv_at hl 5 rfl) ?_
          refine lv_iload hx hb dX4_advance_100 (lv_at hl 2 rfl) ?_
          refine lv_iload hx hb dX4_advance_102 (lv_at hl 0 rfl) ?_
          refine uV (nL := 8) (wr := []) (ci := 2) (q0 := 0) (cq := (RX4, TX4, 8)) hx hb hml hown hts hK hA hP hD hS [.int (nI (spC (S 3) p)), .int (nI 0)] [] (c_X4_countExit l D ca h (S 0) (S 1) (S 2) (nxC S p) ((S 4) + 2 ^ (6 * p)) (S 5) (S 6) (S 7) (spC (S 3) p) 0 hs (by decide)) gX4_advance_X4_countExit rfl ⟨rfl, qX4_countExit⟩ ⟨Nat.le_of_ble_eq_true rfl, Nat.le_of_ble_eq_true rfl⟩ rfl rfl [0] [] rfl rfl (by decide) (by decide) rfl hl.1 (Nat.le_of_ble_eq_true rfl) ⟨Nat.le_of_ble_eq_true rfl, Nat.le_of_ble_eq_true rfl⟩ dX4_advance_104 (oneK (wsN := [(h, .inr (2, [.int (nI (S 0)), .int (nI (S 1)), .int (nI (S 2)), .long (lN (nxC S p)), .long (lN ((S 4) + 2 ^ (6 * p))), .long (lN (S 5)), .long (lN (S 6)), .long (lN ((S 7) + 2 ^ (6 * (spC (S 3) p))))]))]) [0] (by decide) rfl (st1 := []) rfl 0 0 rfl rfl (fun H locs hP hD hS => ?_))
          refine lv_iload hx hb dX4_advance_107 (lv_at hl 3 rfl) ?_
          refine lv_iconst (v := nI 2) hx hb dX4_advance_109 (by decide) ?_
          refine n_ic_ne (tgt := 115) hx hb dX4_advance_110 (by decide) (stC_b _ _) (by decide) (fun c110 => ?_) (fun c110 => ?_)
          · refine lv_aload_n hx hb dX4_advance_115 rfl (lv_at hl 5 rfl) ?_
            refine lv_aload_n hx hb dX4_advance_116 rfl (lv_at hl 5 rfl) ?_
            refine va_get (D := D) (ci := 2) (v := .long (lN (S 5))) (C := RX4) (T := TX4) (N := 8) hx hb hts hinX40 hown hK.1 hP 0 rfl rfl 5 (by decide) (hts (.fieldLink RX4 28 "RenamingGrid$State" "entries" "J") (List.mem_of_getElem? (i := 5) rfl)) (fun _ h9 => h9) rfl dX4_advance_117 ?_
            refine lv_iload hx hb dX4_advance_120 (lv_at hl 1 rfl) ?_
            refine rdS (nL := 8) hx hb hml hown hts hK hP [.long (lN (S 5)), .int (nI (spC (nxC S p) p))] [.ref h] (c_X1_withOneMore l D ca (S 5) (spC (nxC S p) p) hs2) gX4_advance_X1_withOneMore rfl qX1_withOneMore ⟨Nat.le_of_ble_eq_true rfl, Nat.le_of_ble_eq_true rfl⟩ [] rfl rfl hl.1 (Nat.le_of_ble_eq_true rfl) ⟨Nat.le_of_ble_eq_true rfl, Nat.le_of_ble_eq_true rfl⟩ dX4_advance_122 ?_
            refine va_put (D := D) (ci := 2) (v := .long (lN ((S 5) + 2 ^ (6 * (spC (nxC S p) p))))) (ty := tyX4 5) (C := RX4) (T := TX4) (N := 8) hx hb hts hinX40 tyX4 tyX4_ok nmX4 hown hK.1 hP hD hS 0 rfl rfl 5 (by decide) (hts (.fieldLink RX4 28 "RenamingGrid$State" "entries" "J") (List.mem_of_getElem? (i := 5) rfl)) (fun _ h9 => h9) rfl (tyX4_ok 5 (by decide)) rfl rfl (Nat.le_of_ble_eq_true rfl) dX4_advance_125 (fun H locs hP hD hS => ?_)
            have hP : va_P D vwCl [(h, .inr (2, [.int (nI (S 0)), .int (nI (S 1)), .int (nI (S 2)), .long (lN (nxC S p)), .long (lN ((S 4) + 2 ^ (6 * p))), .long (lN ((S 5) + 2 ^ (6 * (spC (nxC S p) p)))), .long (lN (S 6)), .long (lN ((S 7) + 2 ^ (6 * (spC (S 3) p))))]))] H := hP
            have hD : va_D A [(h, .inr (2, [.int (nI (S 0)), .int (nI (S 1)), .int (nI (S 2)), .long (lN (nxC S p)), .long (lN ((S 4) + 2 ^ (6 * p))), .long (lN ((S 5) + 2 ^ (6 * (spC (nxC S p) p)))), .long (lN (S 6)), .long (lN ((S 7) + 2 ^ (6 * (spC (S 3) p))))]))] := hD
            refine lv_iload hx hb dX4_advance_128 (lv_at hl 0 rfl) ?_
            refine n_if_eq (tgt := 137) hx hb dX4_advance_130 (by decide) (by decide) (fun _ => ?_) (fun q => absurd q (by decide))
            refine lv_iconst (v := nI 3) hx hb dX4_advance_137 (by decide) ?_
            have hadv : advA S p = 3 := by first | (exfalso; omega) | simp [advA, c47, c71, c78, c89, c110]
            exact uRetI hx hb hr hlocks hK hP hD hS ⟨by rw [hadv], by simp [cS, advS, hadv, c89]⟩ (Nat.le_of_ble_eq_true rfl) (Nat.le_of_ble_eq_true rfl) dX4_advance_138
          · refine lv_iconst (v := nI 4) hx hb dX4_advance_113 (by decide) ?_
            have hadv : advA S p = 4 := by first | (exfalso; omega) | simp [advA, c47, c71, c78, c89, c110]
            exact uRetI hx hb hr hlocks hK hP hD hS ⟨by rw [hadv], by simp [cS, advS, hadv, c89]⟩ (Nat.le_of_ble_eq_true rfl) (Nat.le_of_ble_eq_true rfl) dX4_advance_114
        · refine lv_iconst (v := nI 1) hx hb dX4_advance_92 (by decide) ?_
          refine lv_goto (tgt := 97) hx hb dX4_advance_93 (by decide) ?_
          refine lv_istore (lv' := [(7, .int (nI 1)), (6, .int (nI (spC (nxC S p) p))), (5, .int (nI (spC (S 3) p))), (4, .int (nI (stC (nxC S p) p))), (2, .long (lN (S 3))), (0, .ref h), (1, .int (nI p))]) hx hb dX4_advance_97 hl (by decide) rfl (fun ls hl => ?_)
          refine lv_aload_n hx hb dX4_advance_99 rfl (lv_at hl 5 rfl) ?_
          refine lv_iload hx hb dX4_advance_100 (lv_at hl 2 rfl) ?_
          refine lv_iload hx hb dX4_advance_102 (lv_at hl 0 rfl) ?_
          refine uV (nL := 8) (wr := []) (ci := 2) (q0 := 0) (cq := (RX4, TX4, 8)) hx hb hml hown hts hK hA hP hD hS [.int (nI (spC (S 3) p)), .int (nI 1)] [] (c_X4_countExit l D ca h (S 0) (S 1) (S 2) (nxC S p) ((S 4) + 2 ^ (6 * p)) (S 5) (S 6) (S 7) (spC (S 3) p) 1 hs (by decide)) gX4_advance_X4_countExit rfl ⟨rfl, qX4_countExit⟩ ⟨Nat.le_of_ble_eq_true rfl, Nat.le_of_ble_eq_true rfl⟩ rfl rfl [0] [] rfl rfl (by decide) (by decide) rfl hl.1 (Nat.le_of_ble_eq_true rfl) ⟨Nat.le_of_ble_eq_true rfl, Nat.le_of_ble_eq_true rfl⟩ dX4_advance_104 (oneK (wsN := [(h, .inr (2, [.int (nI (S 0)), .int (nI (S 1)), .int (nI (S 2)), .long (lN (nxC S p)), .long (lN ((S 4) + 2 ^ (6 * p))), .long (lN (S 5)), .long (lN ((S 6) + 2 ^ (6 * (spC (S 3) p)))), .long (lN (S 7))]))]) [0] (by decide) rfl (st1 := []) rfl 0 0 rfl rfl (fun H locs hP hD hS => ?_))
          refine lv_iload hx hb dX4_advance_107 (lv_at hl 3 rfl) ?_
          refine lv_iconst (v := nI 2) hx hb dX4_advance_109 (by decide) ?_
          refine n_ic_ne (tgt := 115) hx hb dX4_advance_110 (by decide) (stC_b _ _) (by decide) (fun c110 => ?_) (fun c110 => ?_)
          · refine lv_aload_n hx hb dX4_advance_115 rfl (lv_at hl 5 rfl) ?_
            refine lv_aload_n hx hb dX4_advance_116 rfl (lv_at hl 5 rfl) ?_
            refine va_get (D := D) (ci := 2) (v := .long (lN (S 5))) (C := RX4) (T := TX4) (N := 8) hx hb hts hinX40 hown hK.1 hP 0 rfl rfl 5 (by decide) (hts (.fieldLink RX4 28 "RenamingGrid$State" "entries" "J") (List.mem_of_getElem? (i := 5) rfl)) (fun _ h9 => h9) rfl dX4_advance_117 ?_
            refine lv_iload hx hb dX4_advance_120 (lv_at hl 1 rfl) ?_
            refine rdS (nL := 8) hx hb hml hown hts hK hP [.long (lN (S 5)), .int (nI (spC (nxC S p) p))] [.ref h] (c_X1_withOneMore l D ca (S 5) (spC (nxC S p) p) hs2) gX4_advance_X1_withOneMore rfl qX1_withOneMore ⟨Nat.le_of_ble_eq_true rfl, Nat.le_of_ble_eq_true rfl⟩ [] rfl rfl hl.1 (Nat.le_of_ble_eq_true rfl) ⟨Nat.le_of_ble_eq_true rfl, Nat.le_of_ble_eq_true rfl⟩ dX4_advance_122 ?_
            refine va_put (D := D) (ci := 2) (v := .long (lN ((S 5) + 2 ^ (6 * (spC (nxC S p) p))))) (ty := tyX4 5) (C := RX4) (T := TX4) (N := 8) hx hb hts hinX40 tyX4 tyX4_ok nmX4 hown hK.1 hP hD hS 0 rfl rfl 5 (by decide) (hts (.fieldLink RX4 28 "RenamingGrid$State" "entries" "J") (List.mem_of_getElem? (i := 5) rfl)) (fun _ h9 => h9) rfl (tyX4_ok 5 (by decide)) rfl rfl (Nat.le_of_ble_eq_true rfl) dX4_advance_125 (fun H locs hP hD hS => ?_)
            have hP : va_P D vwCl [(h, .inr (2, [.int (nI (S 0)), .int (nI (S 1)), .int (nI (S 2)), .long (lN (nxC S p)), .long (lN ((S 4) + 2 ^ (6 * p))), .long (lN ((S 5) + 2 ^ (6 * (spC (nxC S p) p)))), .long (lN ((S 6) + 2 ^ (6 * (spC (S 3) p)))), .long (lN (S 7))]))] H := hP
            have hD : va_D A [(h, .inr (2, [.int (nI (S 0)), .int (nI (S 1)), .int (nI (S 2)), .long (lN (nxC S p)), .long (lN ((S 4) + 2 ^ (6 * p))), .long (lN ((S 5) + 2 ^ (6 * (spC (nxC S p) p)))), .long (lN ((S 6) + 2 ^ (6 * (spC (S 3) p)))), .long (lN (S 7))]))] := hD
            refine lv_iload hx hb dX4_advance_128 (lv_at hl 0 rfl) ?_
            refine n_if_eq (tgt := 137) hx hb dX4_advance_130 (by decide) (by decide) (fun q => absurd q (by decide)) (fun _ => ?_)
            refine lv_iconst (v := nI 2) hx hb dX4_advance_133 (by decide) ?_
            refine lv_goto (tgt := 138) hx hb dX4_advance_134 (by decide) ?_
            have hadv : advA S p = 2 := by first | (exfalso; omega) | simp [advA, c47, c71, c78, c89, c110]
            exact uRetI hx hb hr hlocks hK hP hD hS ⟨by rw [hadv], by simp [cS, advS, hadv, c89]⟩ (Nat.le_of_ble_eq_true rfl) (Nat.le_of_ble_eq_true rfl) dX4_advance_138
          · refine lv_iconst (v := nI 4) hx hb dX4_advance_113 (by decide) ?_
            have hadv : advA S p = 4 := by first | (exfalso; omega) | simp [advA, c47, c71, c78, c89, c110]
            exact uRetI hx hb hr hlocks hK hP hD hS ⟨by rw [hadv], by simp [cS, advS, hadv, c89]⟩ (Nat.le_of_ble_eq_true rfl) (Nat.le_of_ble_eq_true rfl) dX4_advance_114
      · refine lv_iconst (v := nI 0) hx hb dX4_advance_81 (by decide) ?_
        have hadv : advA S p = 0 := by first | (exfalso; omega) | simp [advA, c47, c71, c78]
        exact uRetI hx hb hr hlocks hK hP hD hS ⟨by rw [hadv], by simp [cS, advS, hadv]⟩ (Nat.le_of_ble_eq_true rfl) (Nat.le_of_ble_eq_true rfl) dX4_advance_82
  · refine lv_iconst (v := nI 1) hx hb dX4_advance_50 (by decide) ?_
    have hadv : advA S p = 1 := by first | (exfalso; omega) | simp [advA, c47]
    exact uRetI hx hb hr hlocks hK hP hD hS ⟨by rw [hadv], by simp [cS, advS, hadv]⟩ (Nat.le_of_ble_eq_true rfl) (Nat.le_of_ble_eq_true rfl) dX4_advance_51

set_option maxHeartbeats 4000000 in
set_option maxRecDepth 100000 in
theorem c_X4_advanceUpTo (l : Launch) (D : va_G) (ca : Nat → ClassId) (h : Nat) (S : Nat → Nat) (p k : Nat) (hok : SOK S) (hp : p < 3) (hk : k < 2 ^ 31) : UP l D ca yX4_advanceUpTo wsX4_advanceUpTo 4 109 0 0 [(h, .inr (2, cS S))] [.ref h, .int (nI p), .int (nI k)] (one (some (.int (nI (runN k S p)))) [(h, .inr (2, cS (runS k S p)))]) := by
  refine UP.start (cc := cX4_advanceUpTo) (maxL := 4) (ret := (some .int)) (by decide) rfl (Nat.le_of_ble_eq_true rfl) ?_
  intro p_ e_ s_ m_ below_ meth_ c_ A hx hb hml hr hlocks hin hown hts hK hA hP hD hS ls hl
  have hown : s_.vm.findClass RX4 = some m_.cls := hown
  have hl : lv_has ls 4 [(0, .ref h), (1, .int (nI p)), (2, .int (nI k))] := hl
  have hinX40 : ∀ w ∈ wsX40, w ∈ wsX4_advanceUpTo := fun w h => List.mem_cons_of_mem _ (List.mem_append_right _ h)
  refine lv_iconst (v := nI 0) hx hb dX4_advanceUpTo_0 (by decide) ?_
  refine lv_istore_n (lv' := [(3, .int (nI 0)), (0, .ref h), (1, .int (nI p)), (2, .int (nI k))]) hx hb dX4_advanceUpTo_1 rfl hl (by decide) rfl (fun ls hl => ?_)
  have loop2 : ∀ (N_ : Nat) (j : Nat) (d : Nat) (Z : Nat → Nat) (hj : j + d = k) (hs1 : runS d Z p = runS k S p) (hn1 : j + runN d Z p = runN k S p) (hok1 : SOK Z) (hf : k < j + N_), ∀ (H : Heap) (locs : List Loc), va_P D vwCl [(h, .inr (2, cS Z))] H → va_D A [(h, .inr (2, cS Z))] → va_S A s_.heap H locs → ∀ (ls : Array Slot), lv_has ls 4 [(3, .int (nI j)), (0, .ref h), (1, .int (nI p)), (2, .int (nI k))] → W p_ l e_ ({ frames := 4, cells := 0, slots := 0, locals := 109 }) s_ m_ ([.ref h, .int (nI p), .int (nI k)]).toArray below_ meth_ c_ H locs 0 0 (MQ below_ (uQA D ca A (one (some (.int (nI (runN k S p)))) [(h, .inr (2, cS (runS k S p)))])) ([.ref h, .int (nI p), .int (nI k)]).toArray s_ 0 0 A) (F0 m_ 2 ls []) := by
    intro N_
    induction N_ with
    | zero => intro j d Z hj hs1 hn1 hok1 hf; exfalso; omega
    | succ N_ ih2 =>
      intro j d Z hj hs1 hn1 hok1 hf H locs hP hD hS ls hl
      refine lv_iload_n hx hb dX4_advanceUpTo_2 rfl (lv_at hl 0 rfl) ?_
      refine lv_iload_n hx hb dX4_advanceUpTo_3 rfl (lv_at hl 3 rfl) ?_
      refine n_ic_ge (tgt := 27) hx hb dX4_advanceUpTo_4 (by decide) (by omega) (by omega) (fun c4 => ?_) (fun c4 => ?_)
      · refine lv_iload_n hx hb dX4_advanceUpTo_27 rfl (lv_at hl 0 rfl) ?_
        have hd : d = 0 := by omega
        subst hd
        exact uRetI hx hb hr hlocks hK hP hD hS ⟨by rw [← hn1]; rfl, by rw [← hs1]; rfl⟩ (Nat.le_of_ble_eq_true rfl) (Nat.le_of_ble_eq_true rfl) dX4_advanceUpTo_28
      · refine lv_aload_n hx hb dX4_advanceUpTo_7 rfl (lv_at hl 1 rfl) ?_
        refine lv_iload_n hx hb dX4_advanceUpTo_8 rfl (lv_at hl 2 rfl) ?_
        refine rdV (nL := 4) (ci := 2) (q0 := 0) (cq := (RX4, TX4, 8)) hx hb hml hown hts hK hP [.int (nI p)] [] (c_X4_isRunning l D ca h Z p hok1.2.2.2.1 hp) gX4_advanceUpTo_X4_isRunning rfl ⟨rfl, qX4_isRunning⟩ ⟨Nat.le_of_ble_eq_true rfl, Nat.le_of_ble_eq_true rfl⟩ rfl rfl [0] rfl rfl hl.1 (Nat.le_of_ble_eq_true rfl) ⟨Nat.le_of_ble_eq_true rfl, Nat.le_of_ble_eq_true rfl⟩ dX4_advanceUpTo_9 ?_
        refine n_if_eq (tgt := 27) hx hb dX4_advanceUpTo_12 (by decide) (bN_b _) (fun c12 => ?_) (fun c12 => ?_)
        · rw [bN_0] at c12
          refine lv_iload_n hx hb dX4_advanceUpTo_27 rfl (lv_at hl 0 rfl) ?_
          obtain ⟨d2, rfl⟩ : ∃ d2, d = d2 + 1 := ⟨d - 1, by omega⟩
          exact uRetI hx hb hr hlocks hK hP hD hS ⟨by rw [← hn1]; simp [runN, c12], by rw [← hs1]; simp [runS, c12]⟩ (Nat.le_of_ble_eq_true rfl) (Nat.le_of_ble_eq_true rfl) dX4_advanceUpTo_28
        · rw [bN_1] at c12
          refine lv_aload_n hx hb dX4_advanceUpTo_15 rfl (lv_at hl 1 rfl) ?_
          refine lv_iload_n hx hb dX4_advanceUpTo_16 rfl (lv_at hl 2 rfl) ?_
          refine uV (nL := 4) (wr := []) (ci := 2) (q0 := 0) (cq := (RX4, TX4, 8)) hx hb hml hown hts hK hA hP hD hS [.int (nI p)] [] (c_X4_advance l D ca h Z p hok1 hp c12) gX4_advanceUpTo_X4_advance rfl ⟨rfl, qX4_advance⟩ ⟨Nat.le_of_ble_eq_true rfl, Nat.le_of_ble_eq_true rfl⟩ rfl rfl [0] [] rfl rfl (by decide) (by decide) rfl hl.1 (Nat.le_of_ble_eq_true rfl) ⟨Nat.le_of_ble_eq_true rfl, Nat.le_of_ble_eq_true rfl⟩ dX4_advanceUpTo_17 (oneK (wsN := [(h, .inr (2, cS ((advS Z p))))]) [0] (by decide) rfl (st1 := [.int (nI (advA Z p))]) rfl 0 0 rfl rfl (fun H locs hP hD hS => ?_))
          refine lv_pop hx hb dX4_advanceUpTo_20 rfl ?_
          refine lv_iinc (v := (nI (j + 1))) (lv' := [(3, .int (nI (j + 1))), (0, .ref h), (1, .int (nI p)), (2, .int (nI k))]) hx hb dX4_advanceUpTo_21 hl (k := 0) rfl (show nI j + Int32.ofInt 1 = nI (j + 1) from nI_add _ 1) (by decide) rfl (fun ls hl => ?_)
          refine lv_goto (tgt := 2) hx hb dX4_advanceUpTo_24 (by decide) ?_
          obtain ⟨d2, rfl⟩ : ∃ d2, d = d2 + 1 := ⟨d - 1, by omega⟩
          exact ih2 (j + 1) d2 ((advS Z p)) (by omega) (by rw [← hs1]; simp [runS, c12]) (by rw [← hn1]; simp [runN, c12]; omega) (SOK_adv hok1 hp c12) (by omega) H locs hP hD hS ls (lv_sub hl [0, 1, 2, 3] rfl)
  exact loop2 (k + 1) 0 k S (by omega) rfl (by omega) hok (by omega) _ _ hP hD hS ls (lv_sub hl [0, 1, 2, 3] rfl)

