set_option maxHeartbeats 4000000 in
set_option maxRecDepth 100000 in
theorem c_X6_in (l : Launch) (D : va_G) (ca : Nat → ClassId) (a b d : Int32) : RD l D ca yX6_in wsX6_in 0 0 [] [.int a, .int b, .int d] (.int (nI (bN (decide (¬ a < b ∧ ¬ d < a))))) := by
  refine RD.start (cc := cX6_in) (maxL := 3) (ret := (some .boolean)) (by decide) rfl (Nat.le_of_ble_eq_true rfl) ?_
  intro p_ e_ s_ m_ below_ meth_ c_ hx hb hml hr hlocks hown hts hP hK ls hl
  have hown : s_.vm.findClass RX6 = some m_.cls := hown
  have hl : lv_has ls 3 [(0, .int a), (1, .int b), (2, .int d)] := hl
  refine lv_iload_n hx hb dX6_in_0 rfl (lv_at hl 0 rfl) ?_
  refine lv_iload_n hx hb dX6_in_1 rfl (lv_at hl 1 rfl) ?_
  refine lv_icmp_lt (tgt := 14) hx hb dX6_in_2 (by decide) (fun c2 => ?_) (fun c2 => ?_)
  · refine lv_iconst (v := nI 0) hx hb dX6_in_14 (by decide) ?_
    exact rRetZ hx hb hr hlocks rfl (congrArg (fun z => Value.int (nI z)) (by symm; first | exact bN_t ⟨c2, c7⟩ | exact bN_f (fun z => z.1 c2) | exact bN_f (fun z => z.2 c7))) dX6_in_15
  · refine lv_iload_n hx hb dX6_in_5 rfl (lv_at hl 0 rfl) ?_
    refine lv_iload_n hx hb dX6_in_6 rfl (lv_at hl 2 rfl) ?_
    refine lv_icmp_gt (tgt := 14) hx hb dX6_in_7 (by decide) (fun c7 => ?_) (fun c7 => ?_)
    · refine lv_iconst (v := nI 0) hx hb dX6_in_14 (by decide) ?_
      exact rRetZ hx hb hr hlocks rfl (congrArg (fun z => Value.int (nI z)) (by symm; first | exact bN_t ⟨c2, c7⟩ | exact bN_f (fun z => z.1 c2) | exact bN_f (fun z => z.2 c7))) dX6_in_15
    · refine lv_iconst (v := nI 1) hx hb dX6_in_10 (by decide) ?_
      refine lv_goto (tgt := 15) hx hb dX6_in_11 (by decide) ?_
      exact rRetZ hx hb hr hlocks rfl (congrArg (fun z => Value.int (nI z)) (by symm; first | exact bN_t ⟨c2, c7⟩ | exact bN_f (fun z => z.1 c2) | exact bN_f (fun z => z.2 c7))) dX6_in_15

set_option maxHeartbeats 4000000 in
set_option maxRecDepth 100000 in
theorem c_X6_statusIn (l : Launch) (D : va_G) (ca : Nat → ClassId) (m : Nat) (r : Nat → Nat) (g : Nat → Int32) (Q : Nat) (hg9 : g 9 = nI Q) (hQ : Q < 2 ^ 24) (p : Nat) (hp : p < 3) : RD l D ca yX6_statusIn wsX6_statusIn 0 0 [(m, .inr (4, mF r g))] [.ref m, .int (nI p)] (.int (nI (gF Q (8 * p) 2))) := by
  refine RD.start (cc := cX6_statusIn) (maxL := 2) (ret := (some .int)) (by decide) rfl (Nat.le_of_ble_eq_true rfl) ?_
  intro p_ e_ s_ m_ below_ meth_ c_ hx hb hml hr hlocks hown hts hP hK ls hl
  have hown : s_.vm.findClass RX6 = some m_.cls := hown
  have hl : lv_has ls 2 [(0, .ref m), (1, .int (nI p))] := hl
  have hinX60 : ∀ w ∈ wsX60, w ∈ wsX6_statusIn := fun w h => List.mem_cons_of_mem _ (List.mem_append_right _ h)
  refine lv_aload_n hx hb dX6_statusIn_0 rfl (lv_at hl 0 rfl) ?_
  refine va_get (D := D) (ci := 4) (v := .int (nI Q)) (C := RX6) (T := TX6) (N := 34) hx hb hts hinX60 hown hK.1 hP 0 rfl rfl 9 (by decide) (hts (.fieldLink RX6 61 "RenamingGridModel" "processes" "I") (List.mem_of_getElem? (i := 1) rfl)) (fun _ h9 => h9) (congrArg (fun z => some (Value.int z)) hg9) dX6_statusIn_1 ?_
  refine lv_bipush (v := nI 8) hx hb dX6_statusIn_4 (by decide) ?_
  refine lv_iload_n hx hb dX6_statusIn_6 rfl (lv_at hl 1 rfl) ?_
  refine n_imul hx hb dX6_statusIn_7 ?_
  refine n_ishr hx hb (by omega) (by omega) dX6_statusIn_8 ?_
  refine lv_iconst (v := nI 3) hx hb dX6_statusIn_9 (by decide) ?_
  refine n_iand hx hb 2 (by decide) dX6_statusIn_10 ?_
  exact rRetI hx hb hr hlocks rfl dX6_statusIn_11

set_option maxHeartbeats 4000000 in
set_option maxRecDepth 100000 in
theorem c_X6_splitterIn (l : Launch) (D : va_G) (ca : Nat → ClassId) (m : Nat) (r : Nat → Nat) (g : Nat → Int32) (Q : Nat) (hg9 : g 9 = nI Q) (hQ : Q < 2 ^ 24) (p : Nat) (hp : p < 3) : RD l D ca yX6_splitterIn wsX6_splitterIn 0 0 [(m, .inr (4, mF r g))] [.ref m, .int (nI p)] (.int (nI (gF Q (8 * p + 2) 4))) := by
  refine RD.start (cc := cX6_splitterIn) (maxL := 2) (ret := (some .int)) (by decide) rfl (Nat.le_of_ble_eq_true rfl) ?_
  intro p_ e_ s_ m_ below_ meth_ c_ hx hb hml hr hlocks hown hts hP hK ls hl
  have hown : s_.vm.findClass RX6 = some m_.cls := hown
  have hl : lv_has ls 2 [(0, .ref m), (1, .int (nI p))] := hl
  have hinX60 : ∀ w ∈ wsX60, w ∈ wsX6_splitterIn := fun w h => List.mem_cons_of_mem _ (List.mem_append_right _ h)
  refine lv_aload_n hx hb dX6_splitterIn_0 rfl (lv_at hl 0 rfl) ?_
  refine va_get (D := D) (ci := 4) (v := .int (nI Q)) (C := RX6) (T := TX6) (N := 34) hx hb hts hinX60 hown hK.1 hP 0 rfl rfl 9 (by decide) (hts (.fieldLink RX6 61 "RenamingGridModel" "processes" "I") (List.mem_of_getElem? (i := 1) rfl)) (fun _ h9 => h9) (congrArg (fun z => some (Value.int z)) hg9) dX6_splitterIn_1 ?_
  refine lv_bipush (v := nI 8) hx hb dX6_splitterIn_4 (by decide) ?_
  refine lv_iload_n hx hb dX6_splitterIn_6 rfl (lv_at hl 1 rfl) ?_
  refine n_imul hx hb dX6_splitterIn_7 ?_
  refine lv_iconst (v := nI 2) hx hb dX6_splitterIn_8 (by decide) ?_
  refine n_iadd hx hb dX6_splitterIn_9 ?_
  refine n_ishr hx hb (by omega) (by omega) dX6_splitterIn_10 ?_
  refine lv_bipush (v := nI 15) hx hb dX6_splitterIn_11 (by decide) ?_
  refine n_iand hx hb 4 (by decide) dX6_splitterIn_13 ?_
  exact rRetI hx hb hr hlocks rfl dX6_splitterIn_14

set_option maxHeartbeats 4000000 in
set_option maxRecDepth 100000 in
theorem c_X6_phaseIn (l : Launch) (D : va_G) (ca : Nat → ClassId) (m : Nat) (r : Nat → Nat) (g : Nat → Int32) (Q : Nat) (hg9 : g 9 = nI Q) (hQ : Q < 2 ^ 24) (p : Nat) (hp : p < 3) : RD l D ca yX6_phaseIn wsX6_phaseIn 0 0 [(m, .inr (4, mF r g))] [.ref m, .int (nI p)] (.int (nI (gF Q (8 * p + 6) 2))) := by
  refine RD.start (cc := cX6_phaseIn) (maxL := 2) (ret := (some .int)) (by decide) rfl (Nat.le_of_ble_eq_true rfl) ?_
  intro p_ e_ s_ m_ below_ meth_ c_ hx hb hml hr hlocks hown hts hP hK ls hl
  have hown : s_.vm.findClass RX6 = some m_.cls := hown
  have hl : lv_has ls 2 [(0, .ref m), (1, .int (nI p))] := hl
  have hinX60 : ∀ w ∈ wsX60, w ∈ wsX6_phaseIn := fun w h => List.mem_cons_of_mem _ (List.mem_append_right _ h)
  refine lv_aload_n hx hb dX6_phaseIn_0 rfl (lv_at hl 0 rfl) ?_
  refine va_get (D := D) (ci := 4) (v := .int (nI Q)) (C := RX6) (T := TX6) (N := 34) hx hb hts hinX60 hown hK.1 hP 0 rfl rfl 9 (by decide) (hts (.fieldLink RX6 61 "RenamingGridModel" "processes" "I") (List.mem_of_getElem? (i := 1) rfl)) (fun _ h9 => h9) (congrArg (fun z => some (Value.int z)) hg9) dX6_phaseIn_1 ?_
  refine lv_bipush (v := nI 8) hx hb dX6_phaseIn_4 (by decide) ?_
  refine lv_iload_n hx hb dX6_phaseIn_6 rfl (lv_at hl 1 rfl) ?_
  refine n_imul hx hb dX6_phaseIn_7 ?_
  refine lv_bipush (v := nI 6) hx hb dX6_phaseIn_8 (by decide) ?_
  refine n_iadd hx hb dX6_phaseIn_10 ?_
  refine n_ishr hx hb (by omega) (by omega) dX6_phaseIn_11 ?_
  refine lv_iconst (v := nI 3) hx hb dX6_phaseIn_12 (by decide) ?_
  refine n_iand hx hb 2 (by decide) dX6_phaseIn_13 ?_
  exact rRetI hx hb hr hlocks rfl dX6_phaseIn_14

set_option maxHeartbeats 4000000 in
set_option maxRecDepth 100000 in
theorem c_X6_ownerIn (l : Launch) (D : va_G) (ca : Nat → ClassId) (m : Nat) (r : Nat → Nat) (g : Nat → Int32) (R : Nat) (hg8 : g 8 = nI R) (hR : R < 2 ^ 30) (t : Nat) (ht : t < 10) : RD l D ca yX6_ownerIn wsX6_ownerIn 0 0 [(m, .inr (4, mF r g))] [.ref m, .int (nI t)] (.int ((zI (gF R (3 * t) 2)))) := by
  refine RD.start (cc := cX6_ownerIn) (maxL := 2) (ret := (some .int)) (by decide) rfl (Nat.le_of_ble_eq_true rfl) ?_
  intro p_ e_ s_ m_ below_ meth_ c_ hx hb hml hr hlocks hown hts hP hK ls hl
  have hown : s_.vm.findClass RX6 = some m_.cls := hown
  have hl : lv_has ls 2 [(0, .ref m), (1, .int (nI t))] := hl
  have hinX60 : ∀ w ∈ wsX60, w ∈ wsX6_ownerIn := fun w h => List.mem_cons_of_mem _ (List.mem_append_right _ h)
  refine lv_aload_n hx hb dX6_ownerIn_0 rfl (lv_at hl 0 rfl) ?_
  refine va_get (D := D) (ci := 4) (v := .int (nI R)) (C := RX6) (T := TX6) (N := 34) hx hb hts hinX60 hown hK.1 hP 0 rfl rfl 8 (by decide) (hts (.fieldLink RX6 64 "RenamingGridModel" "registers" "I") (List.mem_of_getElem? (i := 1) rfl)) (fun _ h9 => h9) (congrArg (fun z => some (Value.int z)) hg8) dX6_ownerIn_1 ?_
  refine lv_iconst (v := nI 3) hx hb dX6_ownerIn_4 (by decide) ?_
  refine lv_iload_n hx hb dX6_ownerIn_5 rfl (lv_at hl 1 rfl) ?_
  refine n_imul hx hb dX6_ownerIn_6 ?_
  refine n_ishr hx hb (by omega) (by omega) dX6_ownerIn_7 ?_
  refine lv_iconst (v := nI 3) hx hb dX6_ownerIn_8 (by decide) ?_
  refine n_iand hx hb 2 (by decide) dX6_ownerIn_9 ?_
  refine lv_iconst (v := nI 1) hx hb dX6_ownerIn_10 (by decide) ?_
  refine lv_isub hx hb dX6_ownerIn_11 ?_
  exact rRetI hx hb hr hlocks (congrArg Value.int sub1) dX6_ownerIn_12

set_option maxHeartbeats 4000000 in
set_option maxRecDepth 100000 in
theorem c_X6_doorIn (l : Launch) (D : va_G) (ca : Nat → ClassId) (m : Nat) (r : Nat → Nat) (g : Nat → Int32) (R : Nat) (hg8 : g 8 = nI R) (hR : R < 2 ^ 30) (t : Nat) (ht : t < 10) : RD l D ca yX6_doorIn wsX6_doorIn 0 0 [(m, .inr (4, mF r g))] [.ref m, .int (nI t)] (.int (nI (gF R (3 * t + 2) 1))) := by
  refine RD.start (cc := cX6_doorIn) (maxL := 2) (ret := (some .int)) (by decide) rfl (Nat.le_of_ble_eq_true rfl) ?_
  intro p_ e_ s_ m_ below_ meth_ c_ hx hb hml hr hlocks hown hts hP hK ls hl
  have hown : s_.vm.findClass RX6 = some m_.cls := hown
  have hl : lv_has ls 2 [(0, .ref m), (1, .int (nI t))] := hl
  have hinX60 : ∀ w ∈ wsX60, w ∈ wsX6_doorIn := fun w h => List.mem_cons_of_mem _ (List.mem_append_right _ h)
  refine lv_aload_n hx hb dX6_doorIn_0 rfl (lv_at hl 0 rfl) ?_
  refine va_get (D := D) (ci := 4) (v := .int (nI R)) (C := RX6) (T := TX6) (N := 34) hx hb hts hinX60 hown hK.1 hP 0 rfl rfl 8 (by decide) (hts (.fieldLink RX6 64 "RenamingGridModel" "registers" "I") (List.mem_of_getElem? (i := 1) rfl)) (fun _ h9 => h9) (congrArg (fun z => some (Value.int z)) hg8) dX6_doorIn_1 ?_
  refine lv_iconst (v := nI 3) hx hb dX6_doorIn_4 (by decide) ?_
  refine lv_iload_n hx hb dX6_doorIn_5 rfl (lv_at hl 1 rfl) ?_
  refine n_imul hx hb dX6_doorIn_6 ?_
  refine lv_iconst (v := nI 2) hx hb dX6_doorIn_7 (by decide) ?_
  refine n_iadd hx hb dX6_doorIn_8 ?_
  refine n_ishr hx hb (by omega) (by omega) dX6_doorIn_9 ?_
  refine lv_iconst (v := nI 1) hx hb dX6_doorIn_10 (by decide) ?_
  refine n_iand hx hb 1 (by decide) dX6_doorIn_11 ?_
  exact rRetI hx hb hr hlocks rfl dX6_doorIn_12

set_option maxHeartbeats 4000000 in
set_option maxRecDepth 100000 in
theorem c_X6_setProcess (l : Launch) (D : va_G) (ca : Nat → ClassId) (m : Nat) (r : Nat → Nat) (g : Nat → Int32) (Q : Nat) (hg9 : g 9 = nI Q) (hQ : Q < 2 ^ 24) (p x y z : Nat) (hp : p < 3) (hx0 : x < 4) (hy : y < 16) (hz : z < 4) : UP l D ca yX6_setProcess wsX6_setProcess 0 0 0 0 [(m, .inr (4, mF r g))] [.ref m, .int (nI p), .int (nI x), .int (nI y), .int (nI z)] (one none [(m, .inr (4, mF r (upd g 9 (nI (sF Q (8 * p) 8 (x + 4 * y + 64 * z))))))]) := by
  refine UP.start (cc := cX6_setProcess) (maxL := 6) (ret := none) (by decide) rfl (Nat.le_of_ble_eq_true rfl) ?_
  intro p_ e_ s_ m_ below_ meth_ c_ A hx hb hml hr hlocks hin hown hts hK hA hP hD hS ls hl
  have hown : s_.vm.findClass RX6 = some m_.cls := hown
  have hl : lv_has ls 6 [(0, .ref m), (1, .int (nI p)), (2, .int (nI x)), (3, .int (nI y)), (4, .int (nI z))] := hl
  have hinX60 : ∀ w ∈ wsX60, w ∈ wsX6_setProcess := fun w h => List.mem_cons_of_mem _ (List.mem_append_right _ h)
  refine lv_iload_n hx hb dX6_setProcess_0 rfl (lv_at hl 2 rfl) ?_
  refine lv_iload_n hx hb dX6_setProcess_1 rfl (lv_at hl 3 rfl) ?_
  refine lv_iconst (v := nI 2) hx hb dX6_setProcess_2 (by decide) ?_
  refine n_ishl hx hb (by omega) dX6_setProcess_3 ?_
  refine lv_ior hx hb dX6_setProcess_4 ?_
  rw [show (((nI x) ||| (nI (y * 2 ^ 2)))) = (nI (x + y * 2 ^ 2)) from (or_add (by omega))]
  refine lv_iload hx hb dX6_setProcess_5 (lv_at hl 4 rfl) ?_
  refine lv_bipush (v := nI 6) hx hb dX6_setProcess_7 (by decide) ?_
  refine n_ishl hx hb (by omega) dX6_setProcess_9 ?_
  refine lv_ior hx hb dX6_setProcess_10 ?_
  rw [show (((nI (x + y * 2 ^ 2)) ||| (nI (z * 2 ^ 6)))) = (nI (x + y * 2 ^ 2 + z * 2 ^ 6)) from (or_add (by omega))]
  refine lv_istore (lv' := [(5, .int (nI (x + y * 2 ^ 2 + z * 2 ^ 6))), (0, .ref m), (1, .int (nI p)), (2, .int (nI x)), (3, .int (nI y)), (4, .int (nI z))]) hx hb dX6_setProcess_11 hl (by decide) rfl (fun ls hl => ?_)
  refine lv_aload_n hx hb dX6_setProcess_13 rfl (lv_at hl 1 rfl) ?_
  refine lv_aload_n hx hb dX6_setProcess_14 rfl (lv_at hl 1 rfl) ?_
  refine va_get (D := D) (ci := 4) (v := .int (nI Q)) (C := RX6) (T := TX6) (N := 34) hx hb hts hinX60 hown hK.1 hP 0 rfl rfl 9 (by decide) (hts (.fieldLink RX6 61 "RenamingGridModel" "processes" "I") (List.mem_of_getElem? (i := 1) rfl)) (fun _ h9 => h9) (congrArg (fun z => some (Value.int z)) hg9) dX6_setProcess_15 ?_
  refine lv_sipush (v := nI 255) hx hb dX6_setProcess_18 (by decide) ?_
  refine lv_bipush (v := nI 8) hx hb dX6_setProcess_21 (by decide) ?_
  refine lv_iload_n hx hb dX6_setProcess_23 rfl (lv_at hl 2 rfl) ?_
  refine n_imul hx hb dX6_setProcess_24 ?_
  refine n_ishl hx hb (by omega) dX6_setProcess_25 ?_
  refine lv_iconst (v := -1) hx hb dX6_setProcess_26 (by decide) ?_
  refine lv_ixor hx hb dX6_setProcess_27 ?_
  refine lv_iand hx hb dX6_setProcess_28 ?_
  refine lv_iload hx hb dX6_setProcess_29 (lv_at hl 0 rfl) ?_
  refine lv_bipush (v := nI 8) hx hb dX6_setProcess_31 (by decide) ?_
  refine lv_iload_n hx hb dX6_setProcess_33 rfl (lv_at hl 2 rfl) ?_
  refine n_imul hx hb dX6_setProcess_34 ?_
  refine n_ishl hx hb (by omega) dX6_setProcess_35 ?_
  refine lv_ior hx hb dX6_setProcess_36 ?_
  rw [show (((((nI Q) &&& (((nI (255 * 2 ^ (8 * p))) ^^^ ((-1)))))) ||| (nI ((x + y * 2 ^ 2 + z * 2 ^ 6) * 2 ^ (8 * p))))) = (nI (sF Q (8 * p) 8 (x + 4 * y + 64 * z))) from (by rw [show x + y * 2 ^ 2 + z * 2 ^ 6 = x + 4 * y + 64 * z by omega]; exact setI (n := Q) (w := 8) (by omega) (by omega))]
  refine va_put (D := D) (ci := 4) (v := .int (nI (sF Q (8 * p) 8 (x + 4 * y + 64 * z)))) (ty := tyX6 9) (C := RX6) (T := TX6) (N := 34) hx hb hts hinX60 tyX6 tyX6_ok nmX6 hown hK.1 hP hD hS 0 rfl rfl 9 (by decide) (hts (.fieldLink RX6 61 "RenamingGridModel" "processes" "I") (List.mem_of_getElem? (i := 1) rfl)) (fun _ h9 => h9) rfl (tyX6_ok 9 (by decide)) rfl rfl (Nat.le_of_ble_eq_true rfl) dX6_setProcess_37 (fun H locs hP hD hS => ?_)
  have hP : va_P D vwCl [(m, .inr (4, mF r (upd g 9 (nI (sF Q (8 * p) 8 (x + 4 * y + 64 * z))))))] H := hP
  have hD : va_D A [(m, .inr (4, mF r (upd g 9 (nI (sF Q (8 * p) 8 (x + 4 * y + 64 * z))))))] := hD
  exact uRetV hx hb hr hlocks hK hP hD hS ⟨rfl, rfl⟩ (Nat.le_of_ble_eq_true rfl) (Nat.le_of_ble_eq_true rfl) dX6_setProcess_40

set_option maxHeartbeats 4000000 in
set_option maxRecDepth 100000 in
theorem c_X6_diagonal (l : Launch) (D : va_G) (ca : Nat → ClassId) (t : Nat) (ht : t < 10) : RD l D ca yX6_diagonal wsX6_diagonal 0 0 [] [.int (nI t)] (.int (nI (dgn t))) := by
  refine RD.start (cc := cX6_diagonal) (maxL := 2) (ret := (some .int)) (by decide) rfl (Nat.le_of_ble_eq_true rfl) ?_
  intro p_ e_ s_ m_ below_ meth_ c_ hx hb hml hr hlocks hown hts hP hK ls hl
  have hown : s_.vm.findClass RX6 = some m_.cls := hown
  have hl : lv_has ls 2 [(0, .int (nI t))] := hl
  refine lv_iconst (v := nI 0) hx hb dX6_diagonal_0 (by decide) ?_
  refine lv_istore_n (lv' := [(1, .int (nI 0)), (0, .int (nI t))]) hx hb dX6_diagonal_1 rfl hl (by decide) rfl (fun ls hl => ?_)
  refine lv_iload_n hx hb dX6_diagonal_2 rfl (lv_at hl 0 rfl) ?_
  refine lv_iconst (v := nI 1) hx hb dX6_diagonal_3 (by decide) ?_
  refine n_iadd hx hb dX6_diagonal_4 ?_
  refine lv_iload_n hx hb dX6_diagonal_5 rfl (lv_at hl 0 rfl) ?_
  refine lv_iconst (v := nI 2) hx hb dX6_diagonal_6 (by decide) ?_
  refine n_iadd hx hb dX6_diagonal_7 ?_
  refine n_imul hx hb dX6_diagonal_8 ?_
  refine lv_iconst (v := nI 2) hx hb dX6_diagonal_9 (by decide) ?_
  refine n_idiv hx hb (by omega) (by omega) (by omega) dX6_diagonal_10 ?_
  refine lv_iload_n hx hb dX6_diagonal_11 rfl (lv_at hl 1 rfl) ?_
  refine n_ic_gt (tgt := 21) hx hb dX6_diagonal_12 (by decide) (by decide) (by omega) (fun c12 => ?_) (fun c12 => ?_)
  · refine lv_iload_n hx hb dX6_diagonal_21 rfl (lv_at hl 0 rfl) ?_
    exact rRetI hx hb hr hlocks (congrArg (fun z => Value.int (nI z)) (by unfold dgn; (repeat' split) <;> omega)) dX6_diagonal_22
  · refine lv_iinc (v := (nI 1)) (lv' := [(1, .int (nI 1)), (0, .int (nI t))]) hx hb dX6_diagonal_15 hl (k := 0) rfl (show nI 0 + Int32.ofInt 1 = nI 1 from by decide) (by decide) rfl (fun ls hl => ?_)
    refine lv_goto (tgt := 2) hx hb dX6_diagonal_18 (by decide) ?_
    refine lv_iload_n hx hb dX6_diagonal_2 rfl (lv_at hl 0 rfl) ?_
    refine lv_iconst (v := nI 1) hx hb dX6_diagonal_3 (by decide) ?_
    refine n_iadd hx hb dX6_diagonal_4 ?_
    refine lv_iload_n hx hb dX6_diagonal_5 rfl (lv_at hl 0 rfl) ?_
    refine lv_iconst (v := nI 2) hx hb dX6_diagonal_6 (by decide) ?_
    refine n_iadd hx hb dX6_diagonal_7 ?_
    refine n_imul hx hb dX6_diagonal_8 ?_
    refine lv_iconst (v := nI 2) hx hb dX6_diagonal_9 (by decide) ?_
    refine n_idiv hx hb (by omega) (by omega) (by omega) dX6_diagonal_10 ?_
    refine lv_iload_n hx hb dX6_diagonal_11 rfl (lv_at hl 1 rfl) ?_
    refine n_ic_gt (tgt := 21) hx hb dX6_diagonal_12 (by decide) (by decide) (by omega) (fun c12 => ?_) (fun c12 => ?_)
    · refine lv_iload_n hx hb dX6_diagonal_21 rfl (lv_at hl 0 rfl) ?_
      exact rRetI hx hb hr hlocks (congrArg (fun z => Value.int (nI z)) (by unfold dgn; (repeat' split) <;> omega)) dX6_diagonal_22
    · refine lv_iinc (v := (nI 2)) (lv' := [(1, .int (nI 2)), (0, .int (nI t))]) hx hb dX6_diagonal_15 hl (k := 0) rfl (show nI 1 + Int32.ofInt 1 = nI 2 from by decide) (by decide) rfl (fun ls hl => ?_)
      refine lv_goto (tgt := 2) hx hb dX6_diagonal_18 (by decide) ?_
      refine lv_iload_n hx hb dX6_diagonal_2 rfl (lv_at hl 0 rfl) ?_
      refine lv_iconst (v := nI 1) hx hb dX6_diagonal_3 (by decide) ?_
      refine n_iadd hx hb dX6_diagonal_4 ?_
      refine lv_iload_n hx hb dX6_diagonal_5 rfl (lv_at hl 0 rfl) ?_
      refine lv_iconst (v := nI 2) hx hb dX6_diagonal_6 (by decide) ?_
      refine n_iadd hx hb dX6_diagonal_7 ?_
      refine n_imul hx hb dX6_diagonal_8 ?_
      refine lv_iconst (v := nI 2) hx hb dX6_diagonal_9 (by decide) ?_
      refine n_idiv hx hb (by omega) (by omega) (by omega) dX6_diagonal_10 ?_
      refine lv_iload_n hx hb dX6_diagonal_11 rfl (lv_at hl 1 rfl) ?_
      refine n_ic_gt (tgt := 21) hx hb dX6_diagonal_12 (by decide) (by decide) (by omega) (fun c12 => ?_) (fun c12 => ?_)
      · refine lv_iload_n hx hb dX6_diagonal_21 rfl (lv_at hl 0 rfl) ?_
        exact rRetI hx hb hr hlocks (congrArg (fun z => Value.int (nI z)) (by unfold dgn; (repeat' split) <;> omega)) dX6_diagonal_22
      · refine lv_iinc (v := (nI 3)) (lv' := [(1, .int (nI 3)), (0, .int (nI t))]) hx hb dX6_diagonal_15 hl (k := 0) rfl (show nI 2 + Int32.ofInt 1 = nI 3 from by decide) (by decide) rfl (fun ls hl => ?_)
        refine lv_goto (tgt := 2) hx hb dX6_diagonal_18 (by decide) ?_
        refine lv_iload_n hx hb dX6_diagonal_2 rfl (lv_at hl 0 rfl) ?_
        refine lv_iconst (v := nI 1) hx hb dX6_diagonal_3 (by decide) ?_
        refine n_iadd hx hb dX6_diagonal_4 ?_
        refine lv_iload_n hx hb dX6_diagonal_5 rfl (lv_at hl 0 rfl) ?_
        refine lv_iconst (v := nI 2) hx hb dX6_diagonal_6 (by decide) ?_
        refine n_iadd hx hb dX6_diagonal_7 ?_
        refine n_imul hx hb dX6_diagonal_8 ?_
        refine lv_iconst (v := nI 2) hx hb dX6_diagonal_9 (by decide) ?_
        refine n_idiv hx hb (by omega) (by omega) (by omega) dX6_diagonal_10 ?_
        refine lv_iload_n hx hb dX6_diagonal_11 rfl (lv_at hl 1 rfl) ?_
        refine n_ic_gt (tgt := 21) hx hb dX6_diagonal_12 (by decide) (by decide) (by omega) (fun c12 => ?_) (fun c12 => absurd c12 (by omega))
        refine lv_iload_n hx hb dX6_diagonal_21 rfl (lv_at hl 0 rfl) ?_
        exact rRetI hx hb hr hlocks (congrArg (fun z => Value.int (nI z)) (by unfold dgn; (repeat' split) <;> omega)) dX6_diagonal_22

set_option maxHeartbeats 4000000 in
set_option maxRecDepth 100000 in
theorem c_X6_move (l : Launch) (D : va_G) (ca : Nat → ClassId) (m : Nat) (r : Nat → Nat) (g : Nat → Int32) (s : Nat → Nat) (k : Nat) (hs0 : s 0 = k) (hk : 2 ≤ k ∧ k ≤ 4) (Q : Nat) (hg9 : g 9 = nI Q) (hQ : Q < 2 ^ 24) (p x t : Nat) (hp : p < 3) (hx0 : x < 2) (hsp : gF Q (8 * p + 2) 4 = t) (ht : t < 10) (htk : dgn t < k) : UP l D ca yX6_move wsX6_move 1 25 0 0 [(m, .inr (4, mF r g)), (r 1, .inl (ca 0, 38, .inl (rwN s)))] [.ref m, .int (nI p), .int (nI x)] (one (some (.int (nI (if k ≤ dgn t + 1 then 4 else 3 - x)))) [(m, .inr (4, mF r (upd (upd (upd g 10 (nI t)) 11 (nI x)) 9 (nI (sF Q (8 * p) 8 (if k ≤ dgn t + 1 then 62 else 4 * (t + (dgn t + 1) + (1 - x)))))))), (r 1, .inl (ca 0, 38, .inl (rwN s)))]) := by
  refine UP.start (cc := cX6_move) (maxL := 5) (ret := (some .int)) (by decide) rfl (Nat.le_of_ble_eq_true rfl) ?_
  intro p_ e_ s_ m_ below_ meth_ c_ A hx hb hml hr hlocks hin hown hts hK hA hP hD hS ls hl
  have hown : s_.vm.findClass RX6 = some m_.cls := hown
  have hl : lv_has ls 5 [(0, .ref m), (1, .int (nI p)), (2, .int (nI x))] := hl
  have hinX60 : ∀ w ∈ wsX60, w ∈ wsX6_move := fun w h => List.mem_cons_of_mem _ (List.mem_append_right _ h)
  have hdt := dgn_le t
  refine lv_aload_n hx hb dX6_move_0 rfl (lv_at hl 0 rfl) ?_
  refine lv_iload_n hx hb dX6_move_1 rfl (lv_at hl 1 rfl) ?_
  refine rdV (nL := 5) (ci := 4) (q0 := 0) (cq := (RX6, TX6, 34)) hx hb hml hown hts hK hP [.int (nI p)] [] (c_X6_splitterIn l D ca m r g Q hg9 hQ p hp) gX6_move_X6_splitterIn rfl ⟨rfl, qX6_splitterIn⟩ ⟨Nat.le_of_ble_eq_true rfl, Nat.le_of_ble_eq_true rfl⟩ rfl rfl [0] rfl rfl hl.1 (Nat.le_of_ble_eq_true rfl) ⟨Nat.le_of_ble_eq_true rfl, Nat.le_of_ble_eq_true rfl⟩ dX6_move_2 ?_
  rw [show (nI (gF Q (8 * p + 2) 4)) = (nI t) from (by rw [hsp])]
  refine lv_istore_n (lv' := [(3, .int (nI t)), (0, .ref m), (1, .int (nI p)), (2, .int (nI x))]) hx hb dX6_move_5 rfl hl (by decide) rfl (fun ls hl => ?_)
  refine lv_iload_n hx hb dX6_move_6 rfl (lv_at hl 0 rfl) ?_
  refine rdS (nL := 5) hx hb hml hown hts hK hP [.int (nI t)] [] (c_X6_diagonal l D ca t ht) gX6_move_X6_diagonal rfl qX6_diagonal ⟨Nat.le_of_ble_eq_true rfl, Nat.le_of_ble_eq_true rfl⟩ [] rfl rfl hl.1 (Nat.le_of_ble_eq_true rfl) ⟨Nat.le_of_ble_eq_true rfl, Nat.le_of_ble_eq_true rfl⟩ dX6_move_7 ?_
  refine lv_istore (lv' := [(4, .int (nI (dgn t))), (3, .int (nI t)), (0, .ref m), (1, .int (nI p)), (2, .int (nI x))]) hx hb dX6_move_10 hl (by decide) rfl (fun ls hl => ?_)
  refine lv_aload_n hx hb dX6_move_12 rfl (lv_at hl 2 rfl) ?_
  refine lv_iload_n hx hb dX6_move_13 rfl (lv_at hl 1 rfl) ?_
  refine va_put (D := D) (ci := 4) (v := .int (nI t)) (ty := tyX6 10) (C := RX6) (T := TX6) (N := 34) hx hb hts hinX60 tyX6 tyX6_ok nmX6 hown hK.1 hP hD hS 0 rfl rfl 10 (by decide) (hts (.fieldLink RX6 74 "RenamingGridModel" "leftSplitter" "I") (List.mem_of_getElem? (i := 1) rfl)) (fun _ h9 => h9) rfl (tyX6_ok 10 (by decide)) rfl rfl (Nat.le_of_ble_eq_true rfl) dX6_move_14 (fun H locs hP hD hS => ?_)
  have hP : va_P D vwCl [(m, .inr (4, mF r (upd g 10 (nI t)))), (r 1, .inl (ca 0, 38, .inl (rwN s)))] H := hP
  have hD : va_D A [(m, .inr (4, mF r (upd g 10 (nI t)))), (r 1, .inl (ca 0, 38, .inl (rwN s)))] := hD
  refine lv_aload_n hx hb dX6_move_17 rfl (lv_at hl 2 rfl) ?_
  refine lv_iload_n hx hb dX6_move_18 rfl (lv_at hl 4 rfl) ?_
  refine va_put (D := D) (ci := 4) (v := .int (nI x)) (ty := tyX6 11) (C := RX6) (T := TX6) (N := 34) hx hb hts hinX60 tyX6 tyX6_ok nmX6 hown hK.1 hP hD hS 0 rfl rfl 11 (by decide) (hts (.fieldLink RX6 77 "RenamingGridModel" "wentRight" "Z") (List.mem_of_getElem? (i := 2) rfl)) (fun _ h9 => h9) rfl (tyX6_ok 11 (by decide)) (nar_b hx0) rfl (Nat.le_of_ble_eq_true rfl) dX6_move_19 (fun H locs hP hD hS => ?_)
  have hP : va_P D vwCl [(m, .inr (4, mF r (upd (upd g 10 (nI t)) 11 (nI x)))), (r 1, .inl (ca 0, 38, .inl (rwN s)))] H := hP
  have hD : va_D A [(m, .inr (4, mF r (upd (upd g 10 (nI t)) 11 (nI x)))), (r 1, .inl (ca 0, 38, .inl (rwN s)))] := hD
  refine lv_iload hx hb dX6_move_22 (lv_at hl 0 rfl) ?_
  refine lv_iconst (v := nI 1) hx hb dX6_move_24 (by decide) ?_
  refine n_iadd hx hb dX6_move_25 ?_
  refine lv_aload_n hx hb dX6_move_26 rfl (lv_at hl 2 rfl) ?_
  refine va_get (D := D) (ci := 4) (v := .ref (r 1)) (C := RX6) (T := TX6) (N := 34) hx hb hts hinX60 hown hK.1 hP 0 rfl rfl 1 (by decide) (hts (.fieldLink RX6 7 "RenamingGridModel" "s" "[I") (List.mem_of_getElem? (i := 3) rfl)) (fun _ h9 => h9) rfl dX6_move_27 ?_
  refine lv_iconst (v := nI 0) hx hb dX6_move_30 (by decide) ?_
  refine n_iald (D := D) (ca := ca) (v := (nI k)) hx hb hK.1 hP 1 (f := (rwN s)) rfl (by omega) (by decide) (congrArg nI hs0) dX6_move_31 ?_
  refine n_ic_ne (tgt := 46) hx hb dX6_move_32 (by decide) (by omega) (by omega) (fun c32 => ?_) (fun c32 => ?_)
  · have h6 := dgn_6 (s := t) (by omega)
    refine lv_aload_n hx hb dX6_move_46 rfl (lv_at hl 2 rfl) ?_
    refine lv_iload_n hx hb dX6_move_47 rfl (lv_at hl 3 rfl) ?_
    refine lv_iconst (v := nI 0) hx hb dX6_move_48 (by decide) ?_
    refine lv_iload_n hx hb dX6_move_49 rfl (lv_at hl 1 rfl) ?_
    refine lv_iload hx hb dX6_move_50 (lv_at hl 0 rfl) ?_
    refine n_iadd hx hb dX6_move_52 ?_
    refine lv_iload_n hx hb dX6_move_53 rfl (lv_at hl 4 rfl) ?_
    refine n_if_eq (tgt := 61) hx hb dX6_move_54 (by decide) (by omega) (fun c54 => ?_) (fun c54 => ?_)
    · refine lv_iconst (v := nI 2) hx hb dX6_move_61 (by decide) ?_
      refine n_iadd hx hb dX6_move_62 ?_
      refine lv_iconst (v := nI 0) hx hb dX6_move_63 (by decide) ?_
      refine uV (nL := 5) (wr := [(r 1, .inl (ca 0, 38, .inl (rwN s)))]) (ci := 4) (q0 := 0) (cq := (RX6, TX6, 34)) hx hb hml hown hts hK hA hP hD hS [.int (nI p), .int (nI 0), .int (nI ((t + (dgn t)) + 2)), .int (nI 0)] [] (c_X6_setProcess l D ca m r ((upd (upd g 10 (nI t)) 11 (nI x))) Q hg9 hQ p 0 ((t + (dgn t)) + 2) 0 hp (by omega) (by omega) (by omega)) gX6_move_X6_setProcess rfl ⟨rfl, qX6_setProcess⟩ ⟨Nat.le_of_ble_eq_true rfl, Nat.le_of_ble_eq_true rfl⟩ rfl rfl [0] [1] rfl rfl (by decide) (by decide) rfl hl.1 (Nat.le_of_ble_eq_true rfl) ⟨Nat.le_of_ble_eq_true rfl, Nat.le_of_ble_eq_true rfl⟩ dX6_move_64 (oneK (wsN := [(m, .inr (4, mF r (upd (upd (upd g 10 (nI t)) 11 (nI x)) 9 (nI (sF Q (8 * p) 8 (0 + 4 * ((t + (dgn t)) + 2) + 64 * 0)))))), (r 1, .inl (ca 0, 38, .inl (rwN s)))]) [1, 0] (by decide) rfl (st1 := []) rfl 0 0 rfl rfl (fun H locs hP hD hS => ?_))
      refine lv_iload_n hx hb dX6_move_67 rfl (lv_at hl 4 rfl) ?_
      refine n_if_eq (tgt := 75) hx hb dX6_move_68 (by decide) (by omega) (fun c68 => ?_) (fun c68 => ?_)
      · refine lv_iconst (v := nI 3) hx hb dX6_move_75 (by decide) ?_
        exact uRetI hx hb hr hlocks hK hP hD hS ⟨by rw [if_neg (by omega)]; first | (rw [show 3 - x = 2 by omega]) | (rw [show 3 - x = 3 by omega]), by rw [if_neg (by omega)]; first | (rw [show 4 * (t + (dgn t + 1) + (1 - x)) = 0 + 4 * (t + dgn t + 1) + 64 * 0 by omega]) | (rw [show 4 * (t + (dgn t + 1) + (1 - x)) = 0 + 4 * (t + dgn t + 2) + 64 * 0 by omega])⟩ (Nat.le_of_ble_eq_true rfl) (Nat.le_of_ble_eq_true rfl) dX6_move_76
      · refine lv_iconst (v := nI 2) hx hb dX6_move_71 (by decide) ?_
        refine lv_goto (tgt := 76) hx hb dX6_move_72 (by decide) ?_
        exact uRetI hx hb hr hlocks hK hP hD hS ⟨by rw [if_neg (by omega)]; first | (rw [show 3 - x = 2 by omega]) | (rw [show 3 - x = 3 by omega]), by rw [if_neg (by omega)]; first | (rw [show 4 * (t + (dgn t + 1) + (1 - x)) = 0 + 4 * (t + dgn t + 1) + 64 * 0 by omega]) | (rw [show 4 * (t + (dgn t + 1) + (1 - x)) = 0 + 4 * (t + dgn t + 2) + 64 * 0 by omega])⟩ (Nat.le_of_ble_eq_true rfl) (Nat.le_of_ble_eq_true rfl) dX6_move_76
    · refine lv_iconst (v := nI 1) hx hb dX6_move_57 (by decide) ?_
      refine lv_goto (tgt := 62) hx hb dX6_move_58 (by decide) ?_
      refine n_iadd hx hb dX6_move_62 ?_
      refine lv_iconst (v := nI 0) hx hb dX6_move_63 (by decide) ?_
      refine uV (nL := 5) (wr := [(r 1, .inl (ca 0, 38, .inl (rwN s)))]) (ci := 4) (q0 := 0) (cq := (RX6, TX6, 34)) hx hb hml hown hts hK hA hP hD hS [.int (nI p), .int (nI 0), .int (nI ((t + (dgn t)) + 1)), .int (nI 0)] [] (c_X6_setProcess l D ca m r ((upd (upd g 10 (nI t)) 11 (nI x))) Q hg9 hQ p 0 ((t + (dgn t)) + 1) 0 hp (by omega) (by omega) (by omega)) gX6_move_X6_setProcess rfl ⟨rfl, qX6_setProcess⟩ ⟨Nat.le_of_ble_eq_true rfl, Nat.le_of_ble_eq_true rfl⟩ rfl rfl [0] [1] rfl rfl (by decide) (by decide) rfl hl.1 (Nat.le_of_ble_eq_true rfl) ⟨Nat.le_of_ble_eq_true rfl, Nat.le_of_ble_eq_true rfl⟩ dX6_move_64 (oneK (wsN := [(m, .inr (4, mF r (upd (upd (upd g 10 (nI t)) 11 (nI x)) 9 (nI (sF Q (8 * p) 8 (0 + 4 * ((t + (dgn t)) + 1) + 64 * 0)))))), (r 1, .inl (ca 0, 38, .inl (rwN s)))]) [1, 0] (by decide) rfl (st1 := []) rfl 0 0 rfl rfl (fun H locs hP hD hS => ?_))
      refine lv_iload_n hx hb dX6_move_67 rfl (lv_at hl 4 rfl) ?_
      refine n_if_eq (tgt := 75) hx hb dX6_move_68 (by decide) (by omega) (fun c68 => ?_) (fun c68 => ?_)
      · refine lv_iconst (v := nI 3) hx hb dX6_move_75 (by decide) ?_
        exact uRetI hx hb hr hlocks hK hP hD hS ⟨by rw [if_neg (by omega)]; first | (rw [show 3 - x = 2 by omega]) | (rw [show 3 - x = 3 by omega]), by rw [if_neg (by omega)]; first | (rw [show 4 * (t + (dgn t + 1) + (1 - x)) = 0 + 4 * (t + dgn t + 1) + 64 * 0 by omega]) | (rw [show 4 * (t + (dgn t + 1) + (1 - x)) = 0 + 4 * (t + dgn t + 2) + 64 * 0 by omega])⟩ (Nat.le_of_ble_eq_true rfl) (Nat.le_of_ble_eq_true rfl) dX6_move_76
      · refine lv_iconst (v := nI 2) hx hb dX6_move_71 (by decide) ?_
        refine lv_goto (tgt := 76) hx hb dX6_move_72 (by decide) ?_
        exact uRetI hx hb hr hlocks hK hP hD hS ⟨by rw [if_neg (by omega)]; first | (rw [show 3 - x = 2 by omega]) | (rw [show 3 - x = 3 by omega]), by rw [if_neg (by omega)]; first | (rw [show 4 * (t + (dgn t + 1) + (1 - x)) = 0 + 4 * (t + dgn t + 1) + 64 * 0 by omega]) | (rw [show 4 * (t + (dgn t + 1) + (1 - x)) = 0 + 4 * (t + dgn t + 2) + 64 * 0 by omega])⟩ (Nat.le_of_ble_eq_true rfl) (Nat.le_of_ble_eq_true rfl) dX6_move_76
  · 
    refine lv_aload_n hx hb dX6_move_35 rfl (lv_at hl 2 rfl) ?_
    refine lv_iload_n hx hb dX6_move_36 rfl (lv_at hl 3 rfl) ?_
    refine lv_iconst (v := nI 2) hx hb dX6_move_37 (by decide) ?_
    refine lv_bipush (v := nI 15) hx hb dX6_move_38 (by decide) ?_
    refine lv_iconst (v := nI 0) hx hb dX6_move_40 (by decide) ?_
    refine uV (nL := 5) (wr := [(r 1, .inl (ca 0, 38, .inl (rwN s)))]) (ci := 4) (q0 := 0) (cq := (RX6, TX6, 34)) hx hb hml hown hts hK hA hP hD hS [.int (nI p), .int (nI 2), .int (nI 15), .int (nI 0)] [] (c_X6_setProcess l D ca m r ((upd (upd g 10 (nI t)) 11 (nI x))) Q hg9 hQ p 2 15 0 hp (by omega) (by omega) (by omega)) gX6_move_X6_setProcess rfl ⟨rfl, qX6_setProcess⟩ ⟨Nat.le_of_ble_eq_true rfl, Nat.le_of_ble_eq_true rfl⟩ rfl rfl [0] [1] rfl rfl (by decide) (by decide) rfl hl.1 (Nat.le_of_ble_eq_true rfl) ⟨Nat.le_of_ble_eq_true rfl, Nat.le_of_ble_eq_true rfl⟩ dX6_move_41 (oneK (wsN := [(m, .inr (4, mF r (upd (upd (upd g 10 (nI t)) 11 (nI x)) 9 (nI (sF Q (8 * p) 8 (2 + 4 * 15 + 64 * 0)))))), (r 1, .inl (ca 0, 38, .inl (rwN s)))]) [1, 0] (by decide) rfl (st1 := []) rfl 0 0 rfl rfl (fun H locs hP hD hS => ?_))
    refine lv_iconst (v := nI 4) hx hb dX6_move_44 (by decide) ?_
    exact uRetI hx hb hr hlocks hK hP hD hS ⟨by rw [if_pos (by omega)], by rw [if_pos (by omega)]⟩ (Nat.le_of_ble_eq_true rfl) (Nat.le_of_ble_eq_true rfl) dX6_move_45

