set_option maxHeartbeats 4000000 in
set_option maxRecDepth 100000 in
theorem c_X6_in (l : Launch) (D : va_G) (ca : Nat → ClassId) (a b d : Int32) : RD l D ca yX6_in wsX6_in 0 0 [] [.int a, .int b, .int d] (.int (nI (bN (decide (¬ a < b ∧ ¬ d < a))))) := by
  refine RD.start (cc := cX6_in) (maxL := 3) (ret := (some .boolean)) (by decide) rfl (Nat.le_of_ble_eq_true rfl) ?_
  intro p_ e_ s_ m_ below_ meth_ c_ hx hb hml hr hlocks hown hts hP hK ls hl
  have hown : s_.vm.findClass RX6 = some m_.cls := hown
  have hl : lv_has ls 3 [(0, .int a), (1, .int b), (2, .int d)] := hl
  refine lv_iload_n hx hb dX6_in_0 rfl (lv_at hl 0 rfl) ?_
  refine lv_iload_n hx hb dX6_in_1 rfl (lv_at hl 1 rfl) ?_
  refine lv_icmp_lt (tgt := 14) hx hb dX6_in_2 (by decide) (fun c2 => ?_) (fun c2 => ?_)
  · refine lv_iconst (v := nI 0) hx hb dX6_in_14 (by decide) ?_
    exact rRetZ hx hb hr hlocks rfl (congrArg (fun z => Value.int (nI z)) (by symm; first | exact bN_t ⟨c2, c7⟩ | exact bN_f (fun z => z.1 c2) | exact bN_f (fun z => z.2 c7))) dX6_in_15
  · refine lv_iload_n hx hb dX6_in_5 rfl (lv_at hl 0 rfl) ?_
    refine lv_iload_n hx hb dX6_in_6 rfl (lv_at hl 2 rfl) ?_
    refine lv_icmp_gt (tgt := 14) hx hb dX6_in_7 (by decide) (fun c7 => ?_) (fun c7 => ?_)
    · refine lv_iconst (v := nI 0) hx hb dX6_in_14 (by decide) ?_
      exact rRetZ hx hb hr hlocks rfl (congrArg (fun z => Value.int (nI z)) (by symm; first | exact bN_t ⟨c2, c7⟩ | exact bN_f (fun z => z.1 c2) | exact bN_f (fun z => z.2 c7))) dX6_in_15
    · refine lv_iconst (v := nI 1) hx hb dX6_in_10 (by decide) ?_
      refine lv_goto (tgt := 15) hx hb dX6_in_11 (by decide) ?_
      exact rRetZ hx hb hr hlocks rfl (congrArg (fun z => Value.int (nI z)) (by symm; first | exact bN_t ⟨c2, c7⟩ | exact bN_f (fun z => z.1 c2) | exact bN_f (fun z => z.2 c7))) dX6_in_15

set_option maxHeartbeats 4000000 in
set_option maxRecDepth 100000 in
theorem c_X6_statusIn (l : Launch) (D : va_G) (ca : Nat → ClassId) (m : Nat) (r : Nat → Nat) (g : Nat → Int32) (Q : Nat) (hg9 : g 9 = nI Q) (hQ : Q < 2 ^ 24) (p : Nat) (hp : p < 3) : RD l D ca yX6_statusIn wsX6_statusIn 0 0 [(m, .inr (4, mF r g))] [.ref m, .int (nI p)] (.int (nI (gF Q (8 * p) 2))) := by
  refine RD.start (cc := cX6_statusIn) (maxL := 2) (ret := (some .int)) (by decide) rfl (Nat.le_of_ble_eq_true rfl) ?_
  intro p_ e_ s_ m_ below_ meth_ c_ hx hb hml hr hlocks hown hts hP hK ls hl
  have hown : s_.vm.findClass RX6 = some m_.cls := hown
  have hl : lv_has ls 2 [(0, .ref m), (1, .int (nI p))] := hl
  have hinX60 : ∀ w ∈ wsX60, w ∈ wsX6_statusIn := fun w h => List.mem_cons_of_mem _ (List.mem_append_right _ h)
  refine lv_aload_n hx hb dX6_statusIn_0 rfl (lv_at hl 0 rfl) ?_
  refine va_get (D := D) (ci := 4) (v := .int (nI Q)) (C := RX6) (T := TX6) (N := 34) hx hb hts hinX60 hown hK.1 hP 0 rfl rfl 9 (by decide) (hts (.fieldLink RX6 61 "RenamingGridModel" "processes" "I") (List.mem_of_getElem? (i := 1) rfl)) (fun _ h9 => h9) (congrArg (fun z => some (Value.int z)) hg9) dX6_statusIn_1 ?_
  refine lv_bipush (v := nI 8) hx hb dX6_statusIn_4 (by decide) ?_
  refine lv_iload_n hx hb dX6_statusIn_6 rfl (lv_at hl 1 rfl) ?_
  refine n_imul hx hb dX6_statusIn_7 ?_
  refine n_ishr hx hb (by omega) (by omega) dX6_statusIn_8 ?_
  refine lv_iconst (v := nI 3) hx hb dX6_statusIn_9 (by decide) ?_
  refine n_iand hx hb 2 (by decide) dX6_statusIn_10 ?_
  exact rRetI hx hb hr hlocks rfl dX6_statusIn_11

set_option maxHeartbeats 4000000 in
set_option maxRecDepth 100000 in
theorem c_X6_splitterIn (l : Launch) (D : va_G) (ca : Nat → ClassId) (m : Nat) (r : Nat → Nat) (g : Nat → Int32) (Q : Nat) (hg9 : g 9 = nI Q) (hQ : Q < 2 ^ 24) (p : Nat) (hp : p < 3) : RD l D ca yX6_splitterIn wsX6_splitterIn 0 0 [(m, .inr (4, mF r g))] [.ref m, .int (nI p)] (.int (nI (gF Q (8 * p + 2) 4))) := by
  refine RD.start (cc := cX6_splitterIn) (maxL := 2) (ret := (some .int)) (by decide) rfl (Nat.le_of_ble_eq_true rfl) ?_
  intro p_ e_ s_ m_ below_ meth_ c_ hx hb hml hr hlocks hown hts hP hK ls hl
  have hown : s_.vm.findClass RX6 = some m_.cls := hown
  have hl : lv_has ls 2 [(0, .ref m), (1, .int (nI p))] := hl
  have hinX60 : ∀ w ∈ wsX60, w ∈ wsX6_splitterIn := fun w h => List.mem_cons_of_mem _ (List.mem_append_right _ h)
  refine lv_aload_n hx hb dX6_splitterIn_0 rfl (lv_at hl 0 rfl) ?_
  refine va_get (D := D) (ci := 4) (v := .int (nI Q)) (C := RX6) (T := TX6) (N := 34) hx hb hts hinX60 hown hK.1 hP 0 rfl rfl 9 (by decide) (hts (.fieldLink RX6 61 "RenamingGridModel" "processes" "I") (List.mem_of_getElem? (i := 1) rfl)) (fun _ h9 => h9) (congrArg (fun z => some (Value.int z)) hg9) dX6_splitterIn_1 ?_
  refine lv_bipush (v := nI 8) hx hb dX6_splitterIn_4 (by decide) ?_
  refine lv_iload_n hx hb dX6_splitterIn_6 rfl (lv_at hl 1 rfl) ?_
  refine n_imul hx hb dX6_splitterIn_7 ?_
  refine lv_iconst (v := nI 2) hx hb dX6_splitterIn_8 (by decide) ?_
  refine n_iadd hx hb dX6_splitterIn_9 ?_
  refine n_ishr hx hb (by omega) (by omega) dX6_splitterIn_10 ?_
  refine lv_bipush (v := nI 15) hx hb dX6_splitterIn_11 (by decide) ?_
  refine n_iand hx hb 4 (by decide) dX6_splitterIn_13 ?_
  exact rRetI hx hb hr hlocks rfl dX6_splitterIn_14

set_option maxHeartbeats 4000000 in
set_option maxRecDepth 100000 in
theorem c_X6_phaseIn (l : Launch) (D : va_G) (ca : Nat → ClassId) (m : Nat) (r : Nat → Nat) (g : Nat → Int32) (Q : Nat) (hg9 : g 9 = nI Q) (hQ : Q < 2 ^ 24) (p : Nat) (hp : p < 3) : RD l D ca yX6_phaseIn wsX6_phaseIn 0 0 [(m, .inr (4, mF r g))] [.ref m, .int (nI p)] (.int (nI (gF Q (8 * p + 6) 2))) := by
  refine RD.start (cc := cX6_phaseIn) (maxL := 2) (ret := (some .int)) (by decide) rfl (Nat.le_of_ble_eq_true rfl) ?_
  intro p_ e_ s_ m_ below_ meth_ c_ hx hb hml hr hlocks hown hts hP hK ls hl
  have hown : s_.vm.findClass RX6 = some m_.cls := hown
  have hl : lv_has ls 2 [(0, .ref m), (1, .int (nI p))] := hl
  have hinX60 : ∀ w ∈ wsX60, w ∈ wsX6_phaseIn := fun w h => List.mem_cons_of_mem _ (List.mem_append_right _ h)
  refine lv_aload_n hx hb dX6_phaseIn_0 rfl (lv_at hl 0 rfl) ?_
  refine va_get (D := D) (ci := 4) (v := .int (nI Q)) (C := RX6) (T := TX6) (N := 34) hx hb hts hinX60 hown hK.1 hP 0 rfl rfl 9 (by decide) (hts (.fieldLink RX6 61 "RenamingGridModel" "processes" "I") (List.mem_of_getElem? (i := 1) rfl)) (fun _ h9 => h9) (congrArg (fun z => some (Value.int z)) hg9) dX6_phaseIn_1 ?_
  refine lv_bipush (v := nI 8) hx hb dX6_phaseIn_4 (by decide) ?_
  refine lv_iload_n hx hb dX6_phaseIn_6 rfl (lv_at hl 1 rfl) ?_
  refine n_imul hx hb dX6_phaseIn_7 ?_
  refine lv_bipush (v := nI 6) hx hb dX6_phaseIn_8 (by decide) ?_
  refine n_iadd hx hb dX6_phaseIn_10 ?_
  refine n_ishr hx hb (by omega) (by omega) dX6_phaseIn_11 ?_
  refine lv_iconst (v := nI 3) hx hb dX6_phaseIn_12 (by decide) ?_
  refine n_iand hx hb 2 (by decide) dX6_phaseIn_13 ?_
  exact rRetI hx hb hr hlocks rfl dX6_phaseIn_14

set_option maxHeartbeats 4000000 in
set_option maxRecDepth 100000 in
theorem c_X6_ownerIn (l : Launch) (D : va_G) (ca : Nat → ClassId) (m : Nat) (r : Nat → Nat) (g : Nat → Int32) (R : Nat) (hg8 : g 8 = nI R) (hR : R < 2 ^ 30) (t : Nat) (ht : t < 10) : RD l D ca yX6_ownerIn wsX6_ownerIn 0 0 [(m, .inr (4, mF r g))] [.ref m, .int (nI t)] (.int ((zI (gF R (3 * t) 2)))) := by
  refine RD.start (cc := cX6_ownerIn) (maxL := 2) (ret := (some .int)) (by decide) rfl (Nat.le_of_ble_eq_true rfl) ?_
  intro p_ e_ s_ m_ below_ meth_ c_ hx hb hml hr hlocks hown hts hP hK ls hl
  have hown : s_.vm.findClass RX6 = some m_.cls := hown
  have hl : lv_has ls 2 [(0, .ref m), (1, .int (nI t))] := hl
  have hinX60 : ∀ w ∈ wsX60, w ∈ wsX6_ownerIn := fun w h => List.mem_cons_of_mem _ (List.mem_append_right _ h)
  refine lv_aload_n hx hb dX6_ownerIn_0 rfl (lv_at hl 0 rfl) ?_
  refine va_get (D := D) (ci := 4) (v := .int (nI R)) (C := RX6) (T := TX6) (N := 34) hx hb hts hinX60 hown hK.1 hP 0 rfl rfl 8 (by decide) (hts (.fieldLink RX6 64 "RenamingGridModel" "registers" "I") (List.mem_of_getElem? (i := 1) rfl)) (fun _ h9 => h9) (congrArg (fun z => some (Value.int z)) hg8) dX6_ownerIn_1 ?_
  refine lv_iconst (v := nI 3) hx hb dX6_ownerIn_4 (by decide) ?_
  refine lv_iload_n hx hb dX6_ownerIn_5 rfl (lv_at hl 1 rfl) ?_
  refine n_imul hx hb dX6_ownerIn_6 ?_
  refine n_ishr hx hb (by omega) (by omega) dX6_ownerIn_7 ?_
  refine lv_iconst (v := nI 3) hx hb dX6_ownerIn_8 (by decide) ?_
  refine n_iand hx hb 2 (by decide) dX6_ownerIn_9 ?_
  refine lv_iconst (v := nI 1) hx hb dX6_ownerIn_10 (by decide) ?_
  refine lv_isub hx hb dX6_ownerIn_11 ?_
  exact rRetI hx hb hr hlocks (congrArg Value.int sub1) dX6_ownerIn_12

set_option maxHeartbeats 4000000 in
set_option maxRecDepth 100000 in
theorem c_X6_doorIn (l : Launch) (D : va_G) (ca : Nat → ClassId) (m : Nat) (r : Nat → Nat) (g : Nat → Int32) (R : Nat) (hg8 : g 8 = nI R) (hR : R < 2 ^ 30) (t : Nat) (ht : t < 10) : RD l D ca yX6_doorIn wsX6_doorIn 0 0 [(m, .inr (4, mF r g))] [.ref m, .int (nI t)] (.int (nI (gF R (3 * t + 2) 1))) := by
  refine RD.start (cc := cX6_doorIn) (maxL := 2) (ret := (some .int)) (by decide) rfl (Nat.le_of_ble_eq_true rfl) ?_
  intro p_ e_ s_ m_ below_ meth_ c_ hx hb hml hr hlocks hown hts hP hK ls hl
  have hown : s_.vm.findClass RX6 = some m_.cls := hown
  have hl : lv_has ls 2 [(0, .ref m), (1, .int (nI t))] := hl
  have hinX60 : ∀ w ∈ wsX60, w ∈ wsX6_doorIn := fun w h => List.mem_cons_of_mem _ (List.mem_append_right _ h)
  refine lv_aload_n hx hb dX6_doorIn_0 rfl (lv_at hl 0 rfl) ?_
  refine va_get (D := D) (ci := 4) (v := .int (nI R)) (C := RX6) (T := TX6) (N := 34) hx hb hts hinX60 hown hK.1 hP 0 rfl rfl 8 (by decide) (hts (.fieldLink RX6 64 "RenamingGridModel" "registers" "I") (List.mem_of_getElem? (i := 1) rfl)) (fun _ h9 => h9) (congrArg (fun z => some (Value.int z)) hg8) dX6_doorIn_1 ?_
  refine lv_iconst (v := nI 3) hx hb dX6_doorIn_4 (by decide) ?_
  refine lv_iload_n hx hb dX6_doorIn_5 rfl (lv_at hl 1 rfl) ?_
  refine n_imul hx hb dX6_doorIn_6 ?_
  refine lv_iconst (v := nI 2) hx hb dX6_doorIn_7 (by decide) ?_
  refine n_iadd hx hb dX6_doorIn_8 ?_
  refine n_ishr hx hb (by omega) (by omega) dX6_doorIn_9 ?_
  refine lv_iconst (v := nI 1) hx hb dX6_doorIn_10 (by decide) ?_
  refine n_iand hx hb 1 (by decide) dX6_doorIn_11 ?_
  exact rRetI hx hb hr hlocks rfl dX6_doorIn_12

set_option maxHeartbeats 4000000 in
set_option maxRecDepth 100000 in
theorem c_X6_setProcess (l : Launch) (D : va_G) (ca : Nat → ClassId) (m : Nat) (r : Nat → Nat) (g : Nat → Int32) (Q : Nat) (hg9 : g 9 = nI Q) (hQ : Q < 2 ^ 24) (p x y z : Nat) (hp : p < 3) (hx0 : x < 4) (hy : y < 16) (hz : z < 4) : UP l D ca yX6_setProcess wsX6_setProcess 0 0 0 0 [(m, .inr (4, mF r g))] [.ref m, .int (nI p), .int (nI x), .int (nI y), .int (nI z)] (one none [(m, .inr (4, mF r (upd g 9 (nI (sF Q (8 * p) 8 (x + 4 * y + 64 * z))))))]) := by
  refine UP.start (cc := cX6_setProcess) (maxL := 6) (ret := none) (by decide) rfl (Nat.le_of_ble_eq_true rfl) ?_
  intro p_ e_ s_ m_ below_ meth_ c_ A hx hb hml hr hlocks hin hown hts hK hA hP hD hS ls hl
  have hown : s_.vm.findClass RX6 = some m_.cls := hown
  have hl : lv_has ls 6 [(0, .ref m), (1, .int (nI p)), (2, .int (nI x)), (3, .int (nI y)), (4, .int (nI z))] := hl
  have hinX60 : ∀ w ∈ wsX60, w ∈ wsX6_setProcess := fun w h => List.mem_cons_of_mem _ (List.mem_append_right _ h)
  refine lv_iload_n hx hb dX6_setProcess_0 rfl (lv_at hl 2 rfl) ?_
  refine lv_iload_n hx hb dX6_setProcess_1 rfl (lv_at hl 3 rfl) ?_
  refine lv_iconst (v := nI 2) hx hb dX6_setProcess_2 (by decide) ?_
  refine n_ishl hx hb (by omega) dX6_setProcess_3 ?_
  refine lv_ior hx hb dX6_setProcess_4 ?_
  rw [show (((nI x) ||| (nI (y * 2 ^ 2)))) = (nI (x + y * 2 ^ 2)) from (or_add (by omega))]
  refine lv_iload hx hb dX6_setProcess_5 (lv_at hl 4 rfl) ?_
  refine lv_bipush (v := nI 6) hx hb dX6_setProcess_7 (by decide) ?_
  refine n_ishl hx hb (by omega) dX6_setProcess_9 ?_
  refine lv_ior hx hb dX6_setProcess_10 ?_
  rw [show (((nI (x + y * 2 ^ 2)) ||| (nI (z * 2 ^ 6)))) = (nI (x + y * 2 ^ 2 + z * 2 ^ 6)) from (or_add (by omega))]
  refine lv_istore (lv' := [(5, .int (nI (x + y * 2 ^ 2 + z * 2 ^ 6))), (0, .ref m), (1, .int (nI p)), (2, .int (nI x)), (3, .int (nI y)), (4, .int (nI z))]) hx hb dX6_setProcess_11 hl (by decide) rfl (fun ls hl => ?_)
  refine lv_aload_n hx hb dX6_setProcess_13 rfl (lv_at hl 1 rfl) ?_
  refine lv_aload_n hx hb dX6_setProcess_14 rfl (lv_at hl 1 rfl) ?_
  refine va_get (D := D) (ci := 4) (v := .int (nI Q)) (C := RX6) (T := TX6) (N := 34) hx hb hts hinX60 hown hK.1 hP 0 rfl rfl 9 (by decide) (hts (.fieldLink RX6 61 "RenamingGridModel" "processes" "I") (List.mem_of_getElem? (i := 1) rfl)) (fun _ h9 => h9) (congrArg (fun z => some (Value.int z)) hg9) dX6_setProcess_15 ?_
  refine lv_sipush (v := nI 255) hx hb dX6_setProcess_18 (by decide) ?_
  refine lv_bipush (v := nI 8) hx hb dX6_setProcess_21 (by decide) ?_
  refine lv_iload_n hx hb dX6_setProcess_23 rfl (lv_at hl 2 rfl) ?_
  refine n_imul hx hb dX6_setProcess_24 ?_
  refine n_ishl hx hb (by omega) dX6_setProcess_25 ?_
  refine lv_iconst (v := -1) hx hb dX6_setProcess_26 (by decide) ?_
  refine lv_ixor hx hb dX6_setProcess_27 ?_
  refine lv_iand hx hb dX6_setProcess_28 ?_
  refine lv_iload hx hb dX6_setProcess_29 (lv_at hl 0 rfl) ?_
  refine lv_bipush (v := nI 8) hx hb dX6_setProcess_31 (by decide) ?_
  refine lv_iload_n hx hb dX6_setProcess_33 rfl (lv_at hl 2 rfl) ?_
  refine n_imul hx hb dX6_setProcess_34 ?_
  refine n_ishl hx hb (by omega) dX6_setProcess_35 ?_
  refine lv_ior hx hb dX6_setProcess_36 ?_
  rw [show (((((nI Q) &&& (((nI (255 * 2 ^ (8 * p))) ^^^ ((-1)))))) ||| (nI ((x + y * 2 ^ 2 + z * 2 ^ 6) * 2 ^ (8 * p))))) = (nI (sF Q (8 * p) 8 (x + 4 * y + 64 * z))) from (by rw [show x + y * 2 ^ 2 + z * 2 ^ 6 = x + 4 * y + 64 * z by omega]; exact setI (n := Q) (w := 8) (by omega) (by omega))]
  refine va_put (D := D) (ci := 4) (v := .int (nI (sF Q (8 * p) 8 (x + 4 * y + 64 * z)))) (ty := tyX6 9) (C := RX6) (T := TX6) (N := 34) hx hb hts hinX60 tyX6 tyX6_ok nmX6 hown hK.1 hP hD hS 0 rfl rfl 9 (by decide) (hts (.fieldLink RX6 61 "RenamingGridModel" "processes" "I") (List.mem_of_getElem? (i := 1) rfl)) (fun _ h9 => h9) rfl (tyX6_ok 9 (by decide)) rfl rfl (Nat.le_of_ble_eq_true rfl) dX6_setProcess_37 (fun H locs hP hD hS => ?_)
  have hP : va_P D vwCl [(m, .inr (4, mF r (upd g 9 (nI (sF Q (8 * p) 8 (x + 4 * y + 64 * z))))))] H := hP
  have hD : va_D A [(m, .inr (4, mF r (upd g 9 (nI (sF Q (8 * p) 8 (x + 4 * y + 64 * z))))))] := hD
  exact uRetV hx hb hr hlocks hK hP hD hS ⟨rfl, rfl⟩ (Nat.le_of_ble_eq_true rfl) (Nat.le_of_ble_eq_true rfl) dX6_setProcess_40

set_option maxHeartbeats 4000000 in
set_option maxRecDepth 100000 in
theorem c_X6_diagonal (l : Launch) (D : va_G) (ca : Nat → ClassId) (t : Nat) (ht : t < 10) : RD l D ca yX6_diagonal wsX6_diagonal 0 0 [] [.int (nI t)] (.int (nI (dgn t))) := by
  refine RD.start (cc := cX6_diagonal) (maxL := 2) (ret := (some .int)) (by decide) rfl (Nat.le_of_ble_eq_true rfl) ?_
  intro p_ e_ s_ m_ below_ meth_ c_ hx hb hml hr hlocks hown hts hP hK ls hl
  have hown : s_.vm.findClass RX6 = some m_.cls := hown
  have hl : lv_has ls 2 [(0, .int (nI t))] := hl
  refine lv_iconst (v := nI 0) hx hb dX6_diagonal_0 (by decide) ?_
  refine lv_istore_n (lv' := [(1, .int (nI 0)), (0, .int (nI t))]) hx hb dX6_diagonal_1 rfl hl (by decide) rfl (fun ls hl => ?_)
  refine lv_iload_n hx hb dX6_diagonal_2 rfl (lv_at hl 0 rfl) ?_
  refine lv_iconst (v := nI 1) hx hb dX6_diagonal_3 (by decide) ?_
  refine n_iadd hx hb dX6_diagonal_4 ?_
  refine lv_iload_n hx hb dX6_diagonal_5 rfl (lv_at hl 0 rfl) ?_
  refine lv_iconst (v := nI 2) hx hb dX6_diagonal_6 (by decide) ?_
  refine n_iadd hx hb dX6_diagonal_7 ?_
  refine n_imul hx hb dX6_diagonal_8 ?_
  refine lv_iconst (v := nI 2) hx hb dX6_diagonal_9 (by decide) ?_
  refine n_idiv hx hb (by omega) (by omega) (by omega) dX6_diagonal_10 ?_
  refine lv_iload_n hx hb dX6_diagonal_11 rfl (lv_at hl 1 rfl) ?_
  refine n_ic_gt (tgt := 21) hx hb dX6_diagonal_12 (by decide) (by decide) (by omega) (fun c12 => ?_) (fun c12 => ?_)
  · refine lv_iload_n hx hb dX6_diagonal_21 rfl (lv_at hl 0 rfl) ?_
    exact rRetI hx hb hr hlocks (congrArg (fun z => Value.int (nI z)) (by unfold dgn; (repeat' split) <;> omega)) dX6_diagonal_22
  · refine lv_iinc (v := (nI 1)) (lv' := [(1, .int (nI 1)), (0, .int (nI t))]) hx hb dX6_diagonal_15 hl (k := 0) rfl (show nI 0 + Int32.ofInt 1 = nI 1 from by decide) (by decide) rfl (fun ls hl => ?_)
    refine lv_goto (tgt := 2) hx hb dX6_diagonal_18 (by decide) ?_
    refine lv_iload_n hx hb dX6_diagonal_2 rfl (lv_at hl 0 rfl) ?_
    refine lv_iconst (v := nI 1) hx hb dX6_diagonal_3 (by decide) ?_
    refine n_iadd hx hb dX6_diagonal_4 ?_
    refine lv_iload_n hx hb dX6_diagonal_5 rfl (lv_at hl 0 rfl) ?_
    refine lv_iconst (v := nI 2) hx hb dX6_diagonal_6 (by decide) ?_
    refine n_iadd hx hb dX6_diagonal_7 ?_
    refine n_imul hx hb dX6_diagonal_8 ?_
    refine lv_iconst (v := nI 2) hx hb dX6_diagonal_9 (by decide) ?_
    refine n_idiv hx hb (by omega) (by omega) (by omega) dX6_diagonal_10 ?_
    refine lv_iload_n hx hb dX6_diagonal_11 rfl (lv_at hl 1 rfl) ?_
    refine n_ic_gt (tgt := 21) hx hb dX6_diagonal_12 (by decide) (by decide) (by omega) (fun c12 => ?_) (fun c12 => ?_)
    · refine lv_iload_n hx hb dX6_diagonal_21 rfl (lv_at hl 0 rfl) ?_
      exact rRetI hx hb hr hlocks (congrArg (fun z => Value.int (nI z)) (by unfold dgn; (repeat' split) <;> omega)) dX6_diagonal_22
    · refine lv_iinc (v := (nI 2)) (lv' := [(1, .int (nI 2)), (0, .int (nI t))]) hx hb dX6_diagonal_15 hl (k := 0) rfl (show nI 1 + Int32.ofInt 1 = nI 2 from by decide) (by decide) rfl (fun ls hl => ?_)
      refine lv_goto (tgt := 2) hx hb dX6_diagonal_18 (by decide) ?_
      refine lv_iload_n hx hb dX6_diagonal_2 rfl (lv_at hl 0 rfl) ?_
      refine lv_iconst (v := nI 1) hx hb dX6_diagonal_3 (by decide) ?_
      refine n_iadd hx hb dX6_diagonal_4 ?_
      refine lv_iload_n hx hb dX6_diagonal_5 rfl (lv_at hl 0 rfl) ?_
      refine lv_iconst (v := nI 2) hx hb dX6_diagonal_6 (by decide) ?_
      refine n_iadd hx hb dX6_diagonal_7 ?_
      refine n_imul hx hb dX6_diagonal_8 ?_
      refine lv_iconst (v := nI 2) hx hb dX6_diagonal_9 (by decide) ?_
      refine n_idiv hx hb (by omega) (by omega) (by omega) dX6_diagonal_10 ?_
      refine lv_iload_n hx hb dX6_diagonal_11 rfl (lv_at hl 1 rfl) ?_
      refine n_ic_gt (tgt := 21) hx hb dX6_diagonal_12 (by decide) (by decide) (by omega) (fun c12 => ?_) (fun c12 => ?_)
      · refine lv_iload_n hx hb dX6_diagonal_21 rfl (lv_at hl 0 rfl) ?_
        exact rRetI hx hb hr hlocks (congrArg (fun z => Value.int (nI z)) (by unfold dgn; (repeat' split) <;> omega)) dX6_diagonal_22
      · refine lv_iinc (v := (nI 3)) (lv' := [(1, .int (nI 3)), (0, .int (nI t))]) hx hb dX6_diagonal_15 hl (k := 0) rfl (show nI 2 + Int32.ofInt 1 = nI 3 from by decide) (by decide) rfl (fun ls hl => ?_)
        refine lv_goto (tgt := 2) hx hb dX6_diagonal_18 (by decide) ?_
        refine lv_iload_n hx hb dX6_diagonal_2 rfl (lv_at hl 0 rfl) ?_
        refine lv_iconst (v := nI 1) hx hb dX6_diagonal_3 (by decide) ?_
        refine n_iadd hx hb dX6_diagonal_4 ?_
        refine lv_iload_n hx hb dX6_diagonal_5 rfl (lv_at hl 0 rfl) ?_
        refine lv_iconst (v := nI 2) hx hb dX6_diagonal_6 (by decide) ?_
        refine n_iadd hx hb dX6_diagonal_7 ?_
        refine n_imul hx hb dX6_diagonal_8 ?_
        refine lv_iconst (v := nI 2) hx hb dX6_diagonal_9 (by decide) ?_
        refine n_idiv hx hb (by omega) (by omega) (by omega) dX6_diagonal_10 ?_
        refine lv_iload_n hx hb dX6_diagonal_11 rfl (lv_at hl 1 rfl) ?_
        refine n_ic_gt (tgt := 21) hx hb dX6_diagonal_12 (by decide) (by decide) (by omega) (fun c12 => ?_) (fun c12 => absurd c12 (by omega))
        refine lv_iload_n hx hb dX6_diagonal_21 rfl (lv_at hl 0 rfl) ?_
        exact rRetI hx hb hr hlocks (congrArg (fun z => Value.int (nI z)) (by unfold dgn; (repeat' split) <;> omega)) dX6_diagonal_22

set_option maxHeartbeats 4000000 in
set_option maxRecDepth 100000 in
theorem c_X6_move (l : Launch) (D : va_G) (ca : Nat → ClassId) (m : Nat) (r : Nat → Nat) (g : Nat → Int32) (s : Nat → Nat) (k : Nat) (hs0 : s 0 = k) (hk : 2 ≤ k ∧ k ≤ 4) (Q : Nat) (hg9 : g 9 = nI Q) (hQ : Q < 2 ^ 24) (p x t : Nat) (hp : p < 3) (hx0 : x < 2) (hsp : gF Q (8 * p + 2) 4 = t) (ht : t < 10) (htk : dgn t < k) : UP l D ca yX6_move wsX6_move 1 25 0 0 [(m, .inr (4, mF r g)), (r 1, .inl (ca 0, 38, .inl (rwN s)))] [.ref m, .int (nI p), .int (nI x)] (one (some (.int (nI (if k ≤ dgn t + 1 then 4 else 3 - x)))) [(m, .inr (4, mF r (upd (upd (upd g 9 (nI (sF Q (8 * p) 8 (if k ≤ dgn t + 1 then 62 else 4 * (t + (dgn t + 1) + (1 - x)))))) 10 (nI t)) 11 (nI x)))), (r 1, .inl (ca 0, 38, .inl (rwN s)))]) := by
  refine UP.start (cc := cX6_move) (maxL := 5) (ret := (some .int)) (by decide) rfl (Nat.le_of_ble_eq_true rfl) ?_
  intro p_ e_ s_ m_ below_ meth_ c_ A hx hb hml hr hlocks hin hown hts hK hA hP hD hS ls hl
  have hown : s_.vm.findClass RX6 = some m_.cls := hown
  have hl : lv_has ls 5 [(0, .ref m), (1, .int (nI p)), (2, .int (nI x))] := hl
  have hinX60 : ∀ w ∈ wsX60, w ∈ wsX6_move := fun w h => List.mem_cons_of_mem _ (List.mem_append_right _ h)
  have hdt := dgn_le t
  refine lv_aload_n hx hb dX6_move_0 rfl (lv_at hl 0 rfl) ?_
  refine lv_iload_n hx hb dX6_move_1 rfl (lv_at hl 1 rfl) ?_
  refine rdV (nL := 5) (ci := 4) (q0 := 0) (cq := (RX6, TX6, 34)) hx hb hml hown hts hK hP [.int (nI p)] [] (c_X6_splitterIn l D ca m r g Q hg9 hQ p hp) gX6_move_X6_splitterIn rfl ⟨rfl, qX6_splitterIn⟩ ⟨Nat.le_of_ble_eq_true rfl, Nat.le_of_ble_eq_true rfl⟩ rfl rfl [0] rfl rfl hl.1 (Nat.le_of_ble_eq_true rfl) ⟨Nat.le_of_ble_eq_true rfl, Nat.le_of_ble_eq_true rfl⟩ dX6_move_2 ?_
  rw [show (nI (gF Q (8 * p + 2) 4)) = (nI t) from (by rw [hsp])]
  refine lv_istore_n (lv' := [(3, .int (nI t)), (0, .ref m), (1, .int (nI p)), (2, .int (nI x))]) hx hb dX6_move_5 rfl hl (by decide) rfl (fun ls hl => ?_)
  refine lv_iload_n hx hb dX6_move_6 rfl (lv_at hl 0 rfl) ?_
  refine rdS (nL := 5) hx hb hml hown hts hK hP [.int (nI t)] [] (c_X6_diagonal l D ca t ht) gX6_move_X6_diagonal rfl qX6_diagonal ⟨Nat.le_of_ble_eq_true rfl, Nat.le_of_ble_eq_true rfl⟩ [] rfl rfl hl.1 (Nat.le_of_ble_eq_true rfl) ⟨Nat.le_of_ble_eq_true rfl, Nat.le_of_ble_eq_true rfl⟩ dX6_move_7 ?_
  refine lv_istore (lv' := [(4, .int (nI (dgn t))), (3, .int (nI t)), (0, .ref m), (1, .int (nI p)), (2, .int (nI x))]) hx hb dX6_move_10 hl (by decide) rfl (fun ls hl => ?_)
  refine lv_aload_n hx hb dX6_move_12 rfl (lv_at hl 2 rfl) ?_
  refine lv_iload_n hx hb dX6_move_13 rfl (lv_at hl 1 rfl) ?_
  refine va_put (D := D) (ci := 4) (v := .int (nI t)) (ty := tyX6 10) (C := RX6) (T := TX6) (N := 34) hx hb hts hinX60 tyX6 tyX6_ok nmX6 hown hK.1 hP hD hS 0 rfl rfl 10 (by decide) (hts (.fieldLink RX6 74 "RenamingGridModel" "leftSplitter" "I") (List.mem_of_getElem? (i := 1) rfl)) (fun _ h9 => h9) rfl (tyX6_ok 10 (by decide)) rfl rfl (Nat.le_of_ble_eq_true rfl) dX6_move_14 (fun H locs hP hD hS => ?_)
  have hP : va_P D vwCl [(m, .inr (4, mF r (upd g 10 (nI t)))), (r 1, .inl (ca 0, 38, .inl (rwN s)))] H := hP
  have hD : va_D A [(m, .inr (4, mF r (upd g 10 (nI t)))), (r 1, .inl (ca 0, 38, .inl (rwN s)))] := hD
  refine lv_aload_n hx hb dX6_move_17 rfl (lv_at hl 2 rfl) ?_
  refine lv_iload_n hx hb dX6_move_18 rfl (lv_at hl 4 rfl) ?_
  refine va_put (D := D) (ci := 4) (v := .int (nI x)) (ty := tyX6 11) (C := RX6) (T := TX6) (N := 34) hx hb hts hinX60 tyX6 tyX6_ok nmX6 hown hK.1 hP hD hS 0 rfl rfl 11 (by decide) (hts (.fieldLink RX6 77 "RenamingGridModel" "wentRight" "Z") (List.mem_of_getElem? (i := 2) rfl)) (fun _ h9 => h9) rfl (tyX6_ok 11 (by decide)) (nar_b hx0) (by rcases (show x = 0 ∨ x = 1 by omega) with rfl | rfl <;> rfl) (Nat.le_of_ble_eq_true rfl) dX6_move_19 (fun H locs hP hD hS => ?_)
  have hP : va_P D vwCl [(m, .inr (4, mF r (upd (upd g 10 (nI t)) 11 (nI x)))), (r 1, .inl (ca 0, 38, .inl (rwN s)))] H := hP
  have hD : va_D A [(m, .inr (4, mF r (upd (upd g 10 (nI t)) 11 (nI x)))), (r 1, .inl (ca 0, 38, .inl (rwN s)))] := hD
  refine lv_iload hx hb dX6_move_22 (lv_at hl 0 rfl) ?_
  refine lv_iconst (v := nI 1) hx hb dX6_move_24 (by decide) ?_
  refine n_iadd hx hb dX6_move_25 ?_
  refine lv_aload_n hx hb dX6_move_26 rfl (lv_at hl 2 rfl) ?_
  refine va_get (D := D) (ci := 4) (v := .ref (r 1)) (C := RX6) (T := TX6) (N := 34) hx hb hts hinX60 hown hK.1 hP 0 rfl rfl 1 (by decide) (hts (.fieldLink RX6 7 "RenamingGridModel" "s" "[I") (List.mem_of_getElem? (i := 3) rfl)) (fun _ h9 => h9) rfl dX6_move_27 ?_
  refine lv_iconst (v := nI 0) hx hb dX6_move_30 (by decide) ?_
  refine n_iald (D := D) (ca := ca) (v := (nI k)) hx hb hK.1 hP 1 (f := (rwN s)) rfl (by omega) (by decide) (congrArg nI hs0) dX6_move_31 ?_
  refine n_ic_ne (tgt := 46) hx hb dX6_move_32 (by decide) (by omega) (by omega) (fun c32 => ?_) (fun c32 => ?_)
  · refine lv_aload_n hx hb dX6_move_46 rfl (lv_at hl 2 rfl) ?_
    refine lv_iload_n hx hb dX6_move_47 rfl (lv_at hl 3 rfl) ?_
    refine lv_iconst (v := nI 0) hx hb dX6_move_48 (by decide) ?_
    refine lv_iload_n hx hb dX6_move_49 rfl (lv_at hl 1 rfl) ?_
    refine lv_iload hx hb dX6_move_50 (lv_at hl 0 rfl) ?_
    refine n_iadd hx hb dX6_move_52 ?_
    refine lv_iload_n hx hb dX6_move_53 rfl (lv_at hl 4 rfl) ?_
    refine n_if_eq (tgt := 61) hx hb dX6_move_54 (by decide) (by omega) (fun c54 => ?_) (fun c54 => ?_)
    · refine lv_iconst (v := nI 2) hx hb dX6_move_61 (by decide) ?_
      refine n_iadd hx hb dX6_move_62 ?_
      refine lv_iconst (v := nI 0) hx hb dX6_move_63 (by decide) ?_
      refine uV (nL := 5) (wr := [(r 1, .inl (ca 0, 38, .inl (rwN s)))]) (ci := 4) (q0 := 0) (cq := (RX6, TX6, 34)) hx hb hml hown hts hK hA hP hD hS [.int (nI p), .int (nI 0), .int (nI ((t + (dgn t)) + 2)), .int (nI 0)] [] (c_X6_setProcess l D ca m r ((upd (upd g 10 (nI t)) 11 (nI x))) Q hg9 hQ p 0 ((t + (dgn t)) + 2) 0 hp (by omega) (by have h6 := dgn_6 (s := t) (by omega); omega) (by omega)) gX6_move_X6_setProcess rfl ⟨rfl, qX6_setProcess⟩ ⟨Nat.le_of_ble_eq_true rfl, Nat.le_of_ble_eq_true rfl⟩ rfl rfl [0] [1] rfl rfl (by decide) (by decide) rfl hl.1 (Nat.le_of_ble_eq_true rfl) ⟨Nat.le_of_ble_eq_true rfl, Nat.le_of_ble_eq_true rfl⟩ dX6_move_64 (oneK (wsN := [(m, .inr (4, mF r (upd (upd (upd g 9 (nI (sF Q (8 * p) 8 (0 + 4 * ((t + (dgn t)) + 2) + 64 * 0)))) 10 (nI t)) 11 (nI x)))), (r 1, .inl (ca 0, 38, .inl (rwN s)))]) [1, 0] (by decide) rfl (st1 := []) rfl 0 0 rfl rfl (fun H locs hP hD hS => ?_))
      refine lv_iload_n hx hb dX6_move_67 rfl (lv_at hl 4 rfl) ?_
      refine n_if_eq (tgt := 75) hx hb dX6_move_68 (by decide) (by omega) (fun c68 => ?_) (fun c68 => absurd c68 (by omega))
      refine lv_iconst (v := nI 3) hx hb dX6_move_75 (by decide) ?_
      have hx1 : x = 0 := by omega
      subst hx1
      exact uRetI hx hb hr hlocks hK hP hD hS ⟨by rw [if_neg (by omega)], by rw [if_neg (by omega), show 4 * (t + (dgn t + 1) + (1 - 0)) = 0 + 4 * (t + dgn t + 2) + 64 * 0 by omega]⟩ (Nat.le_of_ble_eq_true rfl) (Nat.le_of_ble_eq_true rfl) dX6_move_76
    · refine lv_iconst (v := nI 1) hx hb dX6_move_57 (by decide) ?_
      refine lv_goto (tgt := 62) hx hb dX6_move_58 (by decide) ?_
      refine n_iadd hx hb dX6_move_62 ?_
      refine lv_iconst (v := nI 0) hx hb dX6_move_63 (by decide) ?_
      refine uV (nL := 5) (wr := [(r 1, .inl (ca 0, 38, .inl (rwN s)))]) (ci := 4) (q0 := 0) (cq := (RX6, TX6, 34)) hx hb hml hown hts hK hA hP hD hS [.int (nI p), .int (nI 0), .int (nI ((t + (dgn t)) + 1)), .int (nI 0)] [] (c_X6_setProcess l D ca m r ((upd (upd g 10 (nI t)) 11 (nI x))) Q hg9 hQ p 0 ((t + (dgn t)) + 1) 0 hp (by omega) (by have h6 := dgn_6 (s := t) (by omega); omega) (by omega)) gX6_move_X6_setProcess rfl ⟨rfl, qX6_setProcess⟩ ⟨Nat.le_of_ble_eq_true rfl, Nat.le_of_ble_eq_true rfl⟩ rfl rfl [0] [1] rfl rfl (by decide) (by decide) rfl hl.1 (Nat.le_of_ble_eq_true rfl) ⟨Nat.le_of_ble_eq_true rfl, Nat.le_of_ble_eq_true rfl⟩ dX6_move_64 (oneK (wsN := [(m, .inr (4, mF r (upd (upd (upd g 9 (nI (sF Q (8 * p) 8 (0 + 4 * ((t + (dgn t)) + 1) + 64 * 0)))) 10 (nI t)) 11 (nI x)))), (r 1, .inl (ca 0, 38, .inl (rwN s)))]) [1, 0] (by decide) rfl (st1 := []) rfl 0 0 rfl rfl (fun H locs hP hD hS => ?_))
      refine lv_iload_n hx hb dX6_move_67 rfl (lv_at hl 4 rfl) ?_
      refine n_if_eq (tgt := 75) hx hb dX6_move_68 (by decide) (by omega) (fun c68 => absurd c68 (by omega)) (fun c68 => ?_)
      refine lv_iconst (v := nI 2) hx hb dX6_move_71 (by decide) ?_
      refine lv_goto (tgt := 76) hx hb dX6_move_72 (by decide) ?_
      have hx1 : x = 1 := by omega
      subst hx1
      exact uRetI hx hb hr hlocks hK hP hD hS ⟨by rw [if_neg (by omega)], by rw [if_neg (by omega), show 4 * (t + (dgn t + 1) + (1 - 1)) = 0 + 4 * (t + dgn t + 1) + 64 * 0 by omega]⟩ (Nat.le_of_ble_eq_true rfl) (Nat.le_of_ble_eq_true rfl) dX6_move_76
  · refine lv_aload_n hx hb dX6_move_35 rfl (lv_at hl 2 rfl) ?_
    refine lv_iload_n hx hb dX6_move_36 rfl (lv_at hl 3 rfl) ?_
    refine lv_iconst (v := nI 2) hx hb dX6_move_37 (by decide) ?_
    refine lv_bipush (v := nI 15) hx hb dX6_move_38 (by decide) ?_
    refine lv_iconst (v := nI 0) hx hb dX6_move_40 (by decide) ?_
    refine uV (nL := 5) (wr := [(r 1, .inl (ca 0, 38, .inl (rwN s)))]) (ci := 4) (q0 := 0) (cq := (RX6, TX6, 34)) hx hb hml hown hts hK hA hP hD hS [.int (nI p), .int (nI 2), .int (nI 15), .int (nI 0)] [] (c_X6_setProcess l D ca m r ((upd (upd g 10 (nI t)) 11 (nI x))) Q hg9 hQ p 2 15 0 hp (by omega) (by omega) (by omega)) gX6_move_X6_setProcess rfl ⟨rfl, qX6_setProcess⟩ ⟨Nat.le_of_ble_eq_true rfl, Nat.le_of_ble_eq_true rfl⟩ rfl rfl [0] [1] rfl rfl (by decide) (by decide) rfl hl.1 (Nat.le_of_ble_eq_true rfl) ⟨Nat.le_of_ble_eq_true rfl, Nat.le_of_ble_eq_true rfl⟩ dX6_move_41 (oneK (wsN := [(m, .inr (4, mF r (upd (upd (upd g 9 (nI (sF Q (8 * p) 8 (2 + 4 * 15 + 64 * 0)))) 10 (nI t)) 11 (nI x)))), (r 1, .inl (ca 0, 38, .inl (rwN s)))]) [1, 0] (by decide) rfl (st1 := []) rfl 0 0 rfl rfl (fun H locs hP hD hS => ?_))
    refine lv_iconst (v := nI 4) hx hb dX6_move_44 (by decide) ?_
    exact uRetI hx hb hr hlocks hK hP hD hS ⟨by rw [if_pos (by omega)], by rw [if_pos (by omega)]⟩ (Nat.le_of_ble_eq_true rfl) (Nat.le_of_ble_eq_true rfl) dX6_move_45

set_option maxHeartbeats 4000000 in
set_option maxRecDepth 100000 in
theorem c_X6_proceed (l : Launch) (D : va_G) (ca : Nat → ClassId) (m : Nat) (r : Nat → Nat) (g : Nat → Int32) (Q : Nat) (hg9 : g 9 = nI Q) (hQ : Q < 2 ^ 24) (p t : Nat) (hp : p < 3) (hsp : gF Q (8 * p + 2) 4 = t) (ht : t < 16) (x : Nat) (hx0 : x < 4) : UP l D ca yX6_proceed wsX6_proceed 1 25 0 0 [(m, .inr (4, mF r g))] [.ref m, .int (nI p), .int (nI x)] (one (some (.int (nI 0))) [(m, .inr (4, mF r (upd g 9 (nI (sF Q (8 * p) 8 (0 + 4 * t + 64 * x))))))]) := by
  refine UP.start (cc := cX6_proceed) (maxL := 3) (ret := (some .int)) (by decide) rfl (Nat.le_of_ble_eq_true rfl) ?_
  intro p_ e_ s_ m_ below_ meth_ c_ A hx hb hml hr hlocks hin hown hts hK hA hP hD hS ls hl
  have hown : s_.vm.findClass RX6 = some m_.cls := hown
  have hl : lv_has ls 3 [(0, .ref m), (1, .int (nI p)), (2, .int (nI x))] := hl
  have hinX60 : ∀ w ∈ wsX60, w ∈ wsX6_proceed := fun w h => List.mem_cons_of_mem _ (List.mem_append_right _ h)
  refine lv_aload_n hx hb dX6_proceed_0 rfl (lv_at hl 0 rfl) ?_
  refine lv_iload_n hx hb dX6_proceed_1 rfl (lv_at hl 1 rfl) ?_
  refine lv_iconst (v := nI 0) hx hb dX6_proceed_2 (by decide) ?_
  refine lv_aload_n hx hb dX6_proceed_3 rfl (lv_at hl 0 rfl) ?_
  refine lv_iload_n hx hb dX6_proceed_4 rfl (lv_at hl 1 rfl) ?_
  refine rdV (nL := 3) (ci := 4) (q0 := 0) (cq := (RX6, TX6, 34)) hx hb hml hown hts hK hP [.int (nI p)] [.int (nI 0), .int (nI p), .ref m] (c_X6_splitterIn l D ca m r g Q hg9 hQ p hp) gX6_proceed_X6_splitterIn rfl ⟨rfl, qX6_splitterIn⟩ ⟨Nat.le_of_ble_eq_true rfl, Nat.le_of_ble_eq_true rfl⟩ rfl rfl [0] rfl rfl hl.1 (Nat.le_of_ble_eq_true rfl) ⟨Nat.le_of_ble_eq_true rfl, Nat.le_of_ble_eq_true rfl⟩ dX6_proceed_5 ?_
  rw [show (nI (gF Q (8 * p + 2) 4)) = (nI t) from (by rw [hsp])]
  refine lv_iload_n hx hb dX6_proceed_8 rfl (lv_at hl 2 rfl) ?_
  refine uV (nL := 3) (wr := []) (ci := 4) (q0 := 0) (cq := (RX6, TX6, 34)) hx hb hml hown hts hK hA hP hD hS [.int (nI p), .int (nI 0), .int (nI t), .int (nI x)] [] (c_X6_setProcess l D ca m r g Q hg9 hQ p 0 t x hp (by omega) (by omega) (by omega)) gX6_proceed_X6_setProcess rfl ⟨rfl, qX6_setProcess⟩ ⟨Nat.le_of_ble_eq_true rfl, Nat.le_of_ble_eq_true rfl⟩ rfl rfl [0] [] rfl rfl (by decide) (by decide) rfl hl.1 (Nat.le_of_ble_eq_true rfl) ⟨Nat.le_of_ble_eq_true rfl, Nat.le_of_ble_eq_true rfl⟩ dX6_proceed_9 (oneK (wsN := [(m, .inr (4, mF r (upd g 9 (nI (sF Q (8 * p) 8 (0 + 4 * t + 64 * x))))))]) [0] (by decide) rfl (st1 := []) rfl 0 0 rfl rfl (fun H locs hP hD hS => ?_))
  refine lv_iconst (v := nI 0) hx hb dX6_proceed_12 (by decide) ?_
  exact uRetI hx hb hr hlocks hK hP hD hS ⟨rfl, rfl⟩ (Nat.le_of_ble_eq_true rfl) (Nat.le_of_ble_eq_true rfl) dX6_proceed_13

set_option maxHeartbeats 4000000 in
set_option maxRecDepth 100000 in
theorem c_X6_becomeNamed (l : Launch) (D : va_G) (ca : Nat → ClassId) (m : Nat) (r : Nat → Nat) (g : Nat → Int32) (Q : Nat) (hg9 : g 9 = nI Q) (hQ : Q < 2 ^ 24) (p t : Nat) (hp : p < 3) (hsp : gF Q (8 * p + 2) 4 = t) (ht : t < 16) (h : Nat) (hph : gF Q (8 * p + 6) 2 = h) (hh : h < 4) : UP l D ca yX6_becomeNamed wsX6_becomeNamed 1 25 0 0 [(m, .inr (4, mF r g))] [.ref m, .int (nI p)] (one (some (.int (nI 1))) [(m, .inr (4, mF r (upd g 9 (nI (sF Q (8 * p) 8 (1 + 4 * t + 64 * h))))))]) := by
  refine UP.start (cc := cX6_becomeNamed) (maxL := 2) (ret := (some .int)) (by decide) rfl (Nat.le_of_ble_eq_true rfl) ?_
  intro p_ e_ s_ m_ below_ meth_ c_ A hx hb hml hr hlocks hin hown hts hK hA hP hD hS ls hl
  have hown : s_.vm.findClass RX6 = some m_.cls := hown
  have hl : lv_has ls 2 [(0, .ref m), (1, .int (nI p))] := hl
  have hinX60 : ∀ w ∈ wsX60, w ∈ wsX6_becomeNamed := fun w h => List.mem_cons_of_mem _ (List.mem_append_right _ h)
  refine lv_aload_n hx hb dX6_becomeNamed_0 rfl (lv_at hl 0 rfl) ?_
  refine lv_iload_n hx hb dX6_becomeNamed_1 rfl (lv_at hl 1 rfl) ?_
  refine lv_iconst (v := nI 1) hx hb dX6_becomeNamed_2 (by decide) ?_
  refine lv_aload_n hx hb dX6_becomeNamed_3 rfl (lv_at hl 0 rfl) ?_
  refine lv_iload_n hx hb dX6_becomeNamed_4 rfl (lv_at hl 1 rfl) ?_
  refine rdV (nL := 2) (ci := 4) (q0 := 0) (cq := (RX6, TX6, 34)) hx hb hml hown hts hK hP [.int (nI p)] [.int (nI 1), .int (nI p), .ref m] (c_X6_splitterIn l D ca m r g Q hg9 hQ p hp) gX6_becomeNamed_X6_splitterIn rfl ⟨rfl, qX6_splitterIn⟩ ⟨Nat.le_of_ble_eq_true rfl, Nat.le_of_ble_eq_true rfl⟩ rfl rfl [0] rfl rfl hl.1 (Nat.le_of_ble_eq_true rfl) ⟨Nat.le_of_ble_eq_true rfl, Nat.le_of_ble_eq_true rfl⟩ dX6_becomeNamed_5 ?_
  rw [show (nI (gF Q (8 * p + 2) 4)) = (nI t) from (by rw [hsp])]
  refine lv_aload_n hx hb dX6_becomeNamed_8 rfl (lv_at hl 0 rfl) ?_
  refine lv_iload_n hx hb dX6_becomeNamed_9 rfl (lv_at hl 1 rfl) ?_
  refine rdV (nL := 2) (ci := 4) (q0 := 0) (cq := (RX6, TX6, 34)) hx hb hml hown hts hK hP [.int (nI p)] [.int (nI t), .int (nI 1), .int (nI p), .ref m] (c_X6_phaseIn l D ca m r g Q hg9 hQ p hp) gX6_becomeNamed_X6_phaseIn rfl ⟨rfl, qX6_phaseIn⟩ ⟨Nat.le_of_ble_eq_true rfl, Nat.le_of_ble_eq_true rfl⟩ rfl rfl [0] rfl rfl hl.1 (Nat.le_of_ble_eq_true rfl) ⟨Nat.le_of_ble_eq_true rfl, Nat.le_of_ble_eq_true rfl⟩ dX6_becomeNamed_10 ?_
  rw [show (nI (gF Q (8 * p + 6) 2)) = (nI h) from (by rw [hph])]
  refine uV (nL := 2) (wr := []) (ci := 4) (q0 := 0) (cq := (RX6, TX6, 34)) hx hb hml hown hts hK hA hP hD hS [.int (nI p), .int (nI 1), .int (nI t), .int (nI h)] [] (c_X6_setProcess l D ca m r g Q hg9 hQ p 1 t h hp (by omega) (by omega) (by omega)) gX6_becomeNamed_X6_setProcess rfl ⟨rfl, qX6_setProcess⟩ ⟨Nat.le_of_ble_eq_true rfl, Nat.le_of_ble_eq_true rfl⟩ rfl rfl [0] [] rfl rfl (by decide) (by decide) rfl hl.1 (Nat.le_of_ble_eq_true rfl) ⟨Nat.le_of_ble_eq_true rfl, Nat.le_of_ble_eq_true rfl⟩ dX6_becomeNamed_13 (oneK (wsN := [(m, .inr (4, mF r (upd g 9 (nI (sF Q (8 * p) 8 (1 + 4 * t + 64 * h))))))]) [0] (by decide) rfl (st1 := []) rfl 0 0 rfl rfl (fun H locs hP hD hS => ?_))
  refine lv_iconst (v := nI 1) hx hb dX6_becomeNamed_16 (by decide) ?_
  exact uRetI hx hb hr hlocks hK hP hD hS ⟨rfl, rfl⟩ (Nat.le_of_ble_eq_true rfl) (Nat.le_of_ble_eq_true rfl) dX6_becomeNamed_17

set_option maxHeartbeats 4000000 in
set_option maxRecDepth 100000 in
theorem c_X6_closeDoor (l : Launch) (D : va_G) (ca : Nat → ClassId) (m : Nat) (r : Nat → Nat) (g : Nat → Int32) (Q : Nat) (hg9 : g 9 = nI Q) (hQ : Q < 2 ^ 24) (p t : Nat) (hp : p < 3) (hsp : gF Q (8 * p + 2) 4 = t) (ht : t < 16) (R : Nat) (hg8 : g 8 = nI R) (ht2 : t < 10) : UP l D ca yX6_closeDoor wsX6_closeDoor 1 21 0 0 [(m, .inr (4, mF r g))] [.ref m, .int (nI p)] (one (some (.int (nI p))) [(m, .inr (4, mF r (upd g 8 (nI (sF R (3 * t + 2) 1 1)))))]) := by
  refine UP.start (cc := cX6_closeDoor) (maxL := 2) (ret := (some .int)) (by decide) rfl (Nat.le_of_ble_eq_true rfl) ?_
  intro p_ e_ s_ m_ below_ meth_ c_ A hx hb hml hr hlocks hin hown hts hK hA hP hD hS ls hl
  have hown : s_.vm.findClass RX6 = some m_.cls := hown
  have hl : lv_has ls 2 [(0, .ref m), (1, .int (nI p))] := hl
  have hinX60 : ∀ w ∈ wsX60, w ∈ wsX6_closeDoor := fun w h => List.mem_cons_of_mem _ (List.mem_append_right _ h)
  refine lv_aload_n hx hb dX6_closeDoor_0 rfl (lv_at hl 0 rfl) ?_
  refine lv_dup hx hb dX6_closeDoor_1 rfl ?_
  refine va_get (D := D) (ci := 4) (v := .int (nI R)) (C := RX6) (T := TX6) (N := 34) hx hb hts hinX60 hown hK.1 hP 0 rfl rfl 8 (by decide) (hts (.fieldLink RX6 64 "RenamingGridModel" "registers" "I") (List.mem_of_getElem? (i := 1) rfl)) (fun _ h9 => h9) (congrArg (fun z => some (Value.int z)) hg8) dX6_closeDoor_2 ?_
  refine lv_iconst (v := nI 4) hx hb dX6_closeDoor_5 (by decide) ?_
  refine lv_iconst (v := nI 3) hx hb dX6_closeDoor_6 (by decide) ?_
  refine lv_aload_n hx hb dX6_closeDoor_7 rfl (lv_at hl 0 rfl) ?_
  refine lv_iload_n hx hb dX6_closeDoor_8 rfl (lv_at hl 1 rfl) ?_
  refine rdV (nL := 2) (ci := 4) (q0 := 0) (cq := (RX6, TX6, 34)) hx hb hml hown hts hK hP [.int (nI p)] [.int (nI 3), .int (nI 4), .int (nI R), .ref m] (c_X6_splitterIn l D ca m r g Q hg9 hQ p hp) gX6_closeDoor_X6_splitterIn rfl ⟨rfl, qX6_splitterIn⟩ ⟨Nat.le_of_ble_eq_true rfl, Nat.le_of_ble_eq_true rfl⟩ rfl rfl [0] rfl rfl hl.1 (Nat.le_of_ble_eq_true rfl) ⟨Nat.le_of_ble_eq_true rfl, Nat.le_of_ble_eq_true rfl⟩ dX6_closeDoor_9 ?_
  rw [show (nI (gF Q (8 * p + 2) 4)) = (nI t) from (by rw [hsp])]
  refine n_imul hx hb dX6_closeDoor_12 ?_
  refine n_ishl hx hb (by omega) dX6_closeDoor_13 ?_
  refine lv_ior hx hb dX6_closeDoor_14 ?_
  rw [show (((nI R) ||| (nI (4 * 2 ^ (3 * t))))) = (nI (sF R (3 * t + 2) 1 1)) from (by rw [show 4 * 2 ^ (3 * t) = 2 ^ (3 * t + 2) by rw [Nat.pow_add]; omega]; exact orI (by omega))]
  refine va_put (D := D) (ci := 4) (v := .int (nI (sF R (3 * t + 2) 1 1))) (ty := tyX6 8) (C := RX6) (T := TX6) (N := 34) hx hb hts hinX60 tyX6 tyX6_ok nmX6 hown hK.1 hP hD hS 0 rfl rfl 8 (by decide) (hts (.fieldLink RX6 64 "RenamingGridModel" "registers" "I") (List.mem_of_getElem? (i := 1) rfl)) (fun _ h9 => h9) rfl (tyX6_ok 8 (by decide)) rfl rfl (Nat.le_of_ble_eq_true rfl) dX6_closeDoor_15 (fun H locs hP hD hS => ?_)
  have hP : va_P D vwCl [(m, .inr (4, mF r (upd g 8 (nI (sF R (3 * t + 2) 1 1)))))] H := hP
  have hD : va_D A [(m, .inr (4, mF r (upd g 8 (nI (sF R (3 * t + 2) 1 1)))))] := hD
  refine lv_iload_n hx hb dX6_closeDoor_18 rfl (lv_at hl 1 rfl) ?_
  exact uRetI hx hb hr hlocks hK hP hD hS ⟨rfl, rfl⟩ (Nat.le_of_ble_eq_true rfl) (Nat.le_of_ble_eq_true rfl) dX6_closeDoor_19

/-! ===== a step of the model ===== -/
def stAF (t : Nat × Nat × Nat) (sp ph : Nat) : Nat := if t.1 = 1 then 1 else if t.1 = 0 ∧ t.2.2 = sp then 0 else if t.1 = 2 then 4 else if ph = 1 then 2 else 3
def stA (C p k g : Nat) : Nat := stAF (fl3 (stepC C p k g) p) (spC C p) (phC C p)
theorem advA_st (S : Nat → Nat) (p : Nat) : advA S p = stA (S 3) p (S 0) (S 2) := rfl
def lfQ (C p k g : Nat) : Int32 := if 2 ≤ stA C p k g then nI (spC C p) else -9
def wrQ (x : Int32) (C p k g : Nat) : Int32 := if 2 ≤ stA C p k g then nI (if phC C p = 1 then 1 else 0) else x
theorem gq_ext {g h : Nat → Int32} {a b c d : Int32} (h8 : h 8 = a) (h9 : h 9 = b) (h10 : h 10 = c) (h11 : h 11 = d) (ho : ∀ i, i ≠ 8 → i ≠ 9 → i ≠ 10 → i ≠ 11 → h i = g i) : h = upd (upd (upd (upd g 8 a) 9 b) 10 c) 11 d := by
  funext i
  unfold upd
  by_cases e11 : i = 11
  · rw [if_pos e11, e11, h11]
  · rw [if_neg e11]
    by_cases e10 : i = 10
    · rw [if_pos e10, e10, h10]
    · rw [if_neg e10]
      by_cases e9 : i = 9
      · rw [if_pos e9, e9, h9]
      · rw [if_neg e9]
        by_cases e8 : i = 8
        · rw [if_pos e8, e8, h8]
        · rw [if_neg e8]; exact ho i e8 e9 e10 e11
theorem so_ok {C p k gp ans : Nat} {g h : Nat → Int32} {t : Nat × Nat × Nat} (hp : p < 3) (hk : k ≤ 4) (hF : stepF C p k gp = t) (hans : ans = stAF t (spC C p) (phC C p)) (h8 : h 8 = nI (regF C p gp)) (h9 : h 9 = nI (sF (qn C) (8 * p) 8 (qbF t))) (h10 : h 10 = if 2 ≤ ans then nI (spC C p) else -9) (h11 : h 11 = if 2 ≤ ans then nI (if phC C p = 1 then 1 else 0) else g 11)
    (ho : ∀ i, i ≠ 8 → i ≠ 9 → i ≠ 10 → i ≠ 11 → h i = g i) : ans = stA C p k gp ∧ h = upd (upd (upd (upd g 8 (nI (regs (stepC C p k gp)))) 9 (nI (qn (stepC C p k gp)))) 10 (lfQ C p k gp)) 11 (wrQ (g 11) C p k gp) := by
  have ha : ans = stA C p k gp := by rw [hans]; unfold stA; rw [fl3_step hp hk, hF]
  refine ⟨ha, gq_ext (by rw [h8, regs_step hp hk]) (by rw [h9, qn_step hp hk, hF]) (by rw [h10, ha]; rfl) (by rw [h11, ha]; rfl) ho⟩
theorem so_mv {C p k gp x : Nat} {g h : Nat → Int32} (hp : p < 3) (hk : k ≤ 4) (hx : x < 2) (hxp : x = if phC C p = 1 then 1 else 0) (hF : stepF C p k gp = if k ≤ dgn (spC C p) + 1 then (2, 0, 0) else (0, 0, spC C p + (dgn (spC C p) + 1) + (1 - x))) (h8 : h 8 = nI (regF C p gp)) (h9 : h 9 = nI (sF (qn C) (8 * p) 8 (if k ≤ dgn (spC C p) + 1 then 62 else 4 * (spC C p + (dgn (spC C p) + 1) + (1 - x))))) (h10 : h 10 = nI (spC C p)) (h11 : h 11 = nI x)
    (ho : ∀ i, i ≠ 8 → i ≠ 9 → i ≠ 10 → i ≠ 11 → h i = g i) : (if k ≤ dgn (spC C p) + 1 then 4 else 3 - x) = stA C p k gp ∧ h = upd (upd (upd (upd g 8 (nI (regs (stepC C p k gp)))) 9 (nI (qn (stepC C p k gp)))) 10 (lfQ C p k gp)) 11 (wrQ (g 11) C p k gp) := by
  by_cases c : k ≤ dgn (spC C p) + 1
  · rw [if_pos c] at hF h9 ⊢
    exact so_ok hp hk hF rfl h8 h9 (by rw [h10]; rfl) (by rw [h11, hxp]; rfl) ho
  · rw [if_neg c] at hF h9 ⊢
    refine so_ok hp hk hF ?_ h8 (by rw [h9]; congr 2; show _ = 0 + 4 * (if (0 : Nat) = 2 then 15 else spC C p + (dgn (spC C p) + 1) + (1 - x)) + 64 * 0; rw [if_neg (by decide)]; omega) (by rw [h10, if_pos (by omega)]) (by rw [h11, if_pos (by omega), ← hxp]) ho
    show 3 - x = if (0 : Nat) = 1 then 1 else if (0 : Nat) = 0 ∧ spC C p + (dgn (spC C p) + 1) + (1 - x) = spC C p then 0 else if (0 : Nat) = 2 then 4 else if phC C p = 1 then 2 else 3
    rw [if_neg (by decide), if_neg (by omega), if_neg (by decide)]
    split
    · rename_i e; rw [if_pos e] at hxp; omega
    · rename_i e; rw [if_neg e] at hxp; omega

set_option maxHeartbeats 4000000 in
set_option maxRecDepth 100000 in
theorem c_X6_stepOf (l : Launch) (D : va_G) (ca : Nat → ClassId) (m : Nat) (r : Nat → Nat) (g : Nat → Int32) (s : Nat → Nat) (k gp C p : Nat) (hs0 : s 0 = k) (hs2 : s 2 = gp) (hk : 2 ≤ k ∧ k ≤ 4) (hgp : gp ≤ 2) (hC : C < 2 ^ 54) (hp : p < 3) (hr0 : stC C p = 0) (hok : pOK k C p) (hg8 : g 8 = nI (regs C)) (hg9 : g 9 = nI (qn C)) : UP l D ca yX6_stepOf wsX6_stepOf 2 49 0 0 [(m, .inr (4, mF r g)), (r 1, .inl (ca 0, 38, .inl (rwN s)))] [.ref m, .int (nI p)] (one (some (.int (nI (stA C p k gp)))) [(m, .inr (4, mF r (upd (upd (upd (upd g 8 (nI (regs (stepC C p k gp)))) 9 (nI (qn (stepC C p k gp)))) 10 (lfQ C p k gp)) 11 (wrQ (g 11) C p k gp)))), (r 1, .inl (ca 0, 38, .inl (rwN s)))]) := by
  refine UP.start (cc := cX6_stepOf) (maxL := 3) (ret := (some .int)) (by decide) rfl (Nat.le_of_ble_eq_true rfl) ?_
  intro p_ e_ s_ m_ below_ meth_ c_ A hx hb hml hr hlocks hin hown hts hK hA hP hD hS ls hl
  have hown : s_.vm.findClass RX6 = some m_.cls := hown
  have hl : lv_has ls 3 [(0, .ref m), (1, .int (nI p))] := hl
  have hinX60 : ∀ w ∈ wsX60, w ∈ wsX6_stepOf := fun w h => List.mem_cons_of_mem _ (List.mem_append_right _ h)
  have hs10 : spC C p < 10 := pOK_sp hok
  have hsk : dgn (spC C p) < k := by rcases hok with ⟨a, _, _⟩ | ⟨_, _, b⟩ <;> omega
  refine lv_aload_n hx hb dX6_stepOf_0 rfl (lv_at hl 0 rfl) ?_
  refine lv_iload_n hx hb dX6_stepOf_1 rfl (lv_at hl 1 rfl) ?_
  refine rdV (nL := 3) (ci := 4) (q0 := 0) (cq := (RX6, TX6, 34)) hx hb hml hown hts hK hP [.int (nI p)] [] (c_X6_splitterIn l D ca m r g (qn C) hg9 (qn_lt C) p hp) gX6_stepOf_X6_splitterIn rfl ⟨rfl, qX6_splitterIn⟩ ⟨Nat.le_of_ble_eq_true rfl, Nat.le_of_ble_eq_true rfl⟩ rfl rfl [0] rfl rfl hl.1 (Nat.le_of_ble_eq_true rfl) ⟨Nat.le_of_ble_eq_true rfl, Nat.le_of_ble_eq_true rfl⟩ dX6_stepOf_2 ?_
  rw [show (nI (gF (qn C) (8 * p + 2) 4)) = (nI (spC C p)) from (by rw [qn_sp hp, if_neg (by omega)])]
  refine lv_istore_n (lv' := [(2, .int (nI (spC C p))), (0, .ref m), (1, .int (nI p))]) hx hb dX6_stepOf_5 rfl hl (by decide) rfl (fun ls hl => ?_)
  refine lv_aload_n hx hb dX6_stepOf_6 rfl (lv_at hl 1 rfl) ?_
  refine lv_bipush (v := -9) hx hb dX6_stepOf_7 (by decide) ?_
  refine va_put (D := D) (ci := 4) (v := .int ((-9))) (ty := tyX6 10) (C := RX6) (T := TX6) (N := 34) hx hb hts hinX60 tyX6 tyX6_ok nmX6 hown hK.1 hP hD hS 0 rfl rfl 10 (by decide) (hts (.fieldLink RX6 74 "RenamingGridModel" "leftSplitter" "I") (List.mem_of_getElem? (i := 1) rfl)) (fun _ h9 => h9) rfl (tyX6_ok 10 (by decide)) rfl rfl (Nat.le_of_ble_eq_true rfl) dX6_stepOf_9 (fun H locs hP hD hS => ?_)
  have hP : va_P D vwCl [(m, .inr (4, mF r (upd g 10 ((-9))))), (r 1, .inl (ca 0, 38, .inl (rwN s)))] H := hP
  have hD : va_D A [(m, .inr (4, mF r (upd g 10 ((-9))))), (r 1, .inl (ca 0, 38, .inl (rwN s)))] := hD
  refine lv_aload_n hx hb dX6_stepOf_12 rfl (lv_at hl 1 rfl) ?_
  refine lv_iload_n hx hb dX6_stepOf_13 rfl (lv_at hl 2 rfl) ?_
  refine rdV (nL := 3) (ci := 4) (q0 := 0) (cq := (RX6, TX6, 34)) hx hb hml hown hts hK hP [.int (nI p)] [] (c_X6_phaseIn l D ca m r ((upd g 10 ((-9)))) (qn C) hg9 (qn_lt C) p hp) gX6_stepOf_X6_phaseIn rfl ⟨rfl, qX6_phaseIn⟩ ⟨Nat.le_of_ble_eq_true rfl, Nat.le_of_ble_eq_true rfl⟩ rfl rfl [0] rfl rfl hl.1 (Nat.le_of_ble_eq_true rfl) ⟨Nat.le_of_ble_eq_true rfl, Nat.le_of_ble_eq_true rfl⟩ dX6_stepOf_14 ?_
  rw [show (nI (gF (qn C) (8 * p + 6) 2)) = (nI (phC C p)) from (by rw [qn_ph hp])]
  have hph4 := phC_lt C p
  obtain ⟨ph, hph⟩ : ∃ ph, ph = phC C p := ⟨_, rfl⟩
  rw [← hph] at hph4 ⊢
  rcases (show ph = 0 ∨ ph = 1 ∨ ph = 2 ∨ ph = 3 by omega) with rfl | rfl | rfl | rfl
  · refine lv_tableIn (tgt := 44) hx hb dX6_stepOf_17 (by decide) (by decide) rfl (by decide) ?_
    refine lv_aload_n hx hb dX6_stepOf_44 rfl (lv_at hl 1 rfl) ?_
    refine lv_aload_n hx hb dX6_stepOf_45 rfl (lv_at hl 1 rfl) ?_
    refine va_get (D := D) (ci := 4) (v := .int (nI (regs C))) (C := RX6) (T := TX6) (N := 34) hx hb hts hinX60 hown hK.1 hP 0 rfl rfl 8 (by decide) (hts (.fieldLink RX6 64 "RenamingGridModel" "registers" "I") (List.mem_of_getElem? (i := 2) rfl)) (fun _ h9 => h9) (congrArg (fun z => some (Value.int z)) hg8) dX6_stepOf_46 ?_
    refine lv_iconst (v := nI 3) hx hb dX6_stepOf_49 (by decide) ?_
    refine lv_iconst (v := nI 3) hx hb dX6_stepOf_50 (by decide) ?_
    refine lv_iload_n hx hb dX6_stepOf_51 rfl (lv_at hl 0 rfl) ?_
    refine n_imul hx hb dX6_stepOf_52 ?_
    refine n_ishl hx hb (by omega) dX6_stepOf_53 ?_
    refine lv_iconst (v := -1) hx hb dX6_stepOf_54 (by decide) ?_
    refine lv_ixor hx hb dX6_stepOf_55 ?_
    refine lv_iand hx hb dX6_stepOf_56 ?_
    refine lv_iload_n hx hb dX6_stepOf_57 rfl (lv_at hl 2 rfl) ?_
    refine lv_iconst (v := nI 1) hx hb dX6_stepOf_58 (by decide) ?_
    refine n_iadd hx hb dX6_stepOf_59 ?_
    refine lv_iconst (v := nI 3) hx hb dX6_stepOf_60 (by decide) ?_
    refine lv_iload_n hx hb dX6_stepOf_61 rfl (lv_at hl 0 rfl) ?_
    refine n_imul hx hb dX6_stepOf_62 ?_
    refine n_ishl hx hb (by omega) dX6_stepOf_63 ?_
    refine lv_ior hx hb dX6_stepOf_64 ?_
    rw [show (((((nI (regs C)) &&& (((nI (3 * 2 ^ (3 * (spC C p)))) ^^^ ((-1)))))) ||| (nI ((p + 1) * 2 ^ (3 * (spC C p)))))) = (nI (sF (regs C) (3 * spC C p) 2 (p + 1))) from (setI (n := regs C) (w := 2) (by omega) (by omega))]
    refine va_put (D := D) (ci := 4) (v := .int (nI (sF (regs C) (3 * spC C p) 2 (p + 1)))) (ty := tyX6 8) (C := RX6) (T := TX6) (N := 34) hx hb hts hinX60 tyX6 tyX6_ok nmX6 hown hK.1 hP hD hS 0 rfl rfl 8 (by decide) (hts (.fieldLink RX6 64 "RenamingGridModel" "registers" "I") (List.mem_of_getElem? (i := 2) rfl)) (fun _ h9 => h9) rfl (tyX6_ok 8 (by decide)) rfl rfl (Nat.le_of_ble_eq_true rfl) dX6_stepOf_65 (fun H locs hP hD hS => ?_)
    have hP : va_P D vwCl [(m, .inr (4, mF r (upd (upd g 8 (nI (sF (regs C) (3 * spC C p) 2 (p + 1)))) 10 ((-9))))), (r 1, .inl (ca 0, 38, .inl (rwN s)))] H := hP
    have hD : va_D A [(m, .inr (4, mF r (upd (upd g 8 (nI (sF (regs C) (3 * spC C p) 2 (p + 1)))) 10 ((-9))))), (r 1, .inl (ca 0, 38, .inl (rwN s)))] := hD
    refine lv_aload_n hx hb dX6_stepOf_68 rfl (lv_at hl 1 rfl) ?_
    refine lv_iload_n hx hb dX6_stepOf_69 rfl (lv_at hl 2 rfl) ?_
    refine lv_aload_n hx hb dX6_stepOf_70 rfl (lv_at hl 1 rfl) ?_
    refine va_get (D := D) (ci := 4) (v := .ref (r 1)) (C := RX6) (T := TX6) (N := 34) hx hb hts hinX60 hown hK.1 hP 0 rfl rfl 1 (by decide) (hts (.fieldLink RX6 7 "RenamingGridModel" "s" "[I") (List.mem_of_getElem? (i := 3) rfl)) (fun _ h9 => h9) rfl dX6_stepOf_71 ?_
    refine lv_iconst (v := nI 2) hx hb dX6_stepOf_74 (by decide) ?_
    refine n_iald (D := D) (ca := ca) (v := (nI gp)) hx hb hK.1 hP 1 (f := (rwN s)) rfl (by omega) (by decide) (congrArg nI hs2) dX6_stepOf_75 ?_
    refine lv_iconst (v := nI 1) hx hb dX6_stepOf_76 (by decide) ?_
    refine n_ic_ne (tgt := 84) hx hb dX6_stepOf_77 (by decide) (by omega) (by decide) (fun c77 => ?_) (fun c77 => ?_)
    · refine lv_iconst (v := nI 1) hx hb dX6_stepOf_84 (by decide) ?_
      refine uV (nL := 3) (wr := [(r 1, .inl (ca 0, 38, .inl (rwN s)))]) (ci := 4) (q0 := 0) (cq := (RX6, TX6, 34)) hx hb hml hown hts hK hA hP hD hS [.int (nI p), .int (nI 1)] [] (c_X6_proceed l D ca m r ((upd (upd g 8 (nI (sF (regs C) (3 * spC C p) 2 (p + 1)))) 10 ((-9)))) (qn C) hg9 (qn_lt C) p (spC C p) hp (by rw [qn_sp hp, if_neg (by omega)]) (by omega) 1 (by omega)) gX6_stepOf_X6_proceed rfl ⟨rfl, qX6_proceed⟩ ⟨Nat.le_of_ble_eq_true rfl, Nat.le_of_ble_eq_true rfl⟩ rfl rfl [0] [1] rfl rfl (by decide) (by decide) rfl hl.1 (Nat.le_of_ble_eq_true rfl) ⟨Nat.le_of_ble_eq_true rfl, Nat.le_of_ble_eq_true rfl⟩ dX6_stepOf_85 (oneK (wsN := [(m, .inr (4, mF r (upd (upd (upd g 8 (nI (sF (regs C) (3 * spC C p) 2 (p + 1)))) 9 (nI (sF (qn C) (8 * p) 8 (0 + 4 * (spC C p) + 64 * 1)))) 10 ((-9))))), (r 1, .inl (ca 0, 38, .inl (rwN s)))]) [1, 0] (by decide) rfl (st1 := [.int (nI 0)]) rfl 0 0 rfl rfl (fun H locs hP hD hS => ?_))
      have so := so_ok (C := C) (p := p) (k := k) (gp := gp) (g := g) (h := (upd (upd (upd g 8 (nI (sF (regs C) (3 * spC C p) 2 (p + 1)))) 9 (nI (sF (qn C) (8 * p) 8 (0 + 4 * (spC C p) + 64 * 1)))) 10 ((-9)))) (ans := 0) (t := (0, 1, spC C p)) hp hk.2 (by unfold stepF; rw [← hph, if_pos rfl, if_neg c77, hr0]) (by show 0 = (if (0 : Nat) = 1 then 1 else if (0 : Nat) = 0 ∧ spC C p = spC C p then 0 else _); rw [if_neg (by decide), if_pos ⟨rfl, rfl⟩]) (by show nI _ = nI _; unfold regF; rw [← hph, if_pos rfl]) rfl rfl rfl (fun i e8 e9 e10 e11 => by unfold upd; simp only [e8, e9, e10, e11, if_false])
      exact uRetI hx hb hr hlocks hK hP hD hS ⟨by rw [so.1], by rw [so.2]⟩ (Nat.le_of_ble_eq_true rfl) (Nat.le_of_ble_eq_true rfl) dX6_stepOf_88
    · refine lv_iconst (v := nI 2) hx hb dX6_stepOf_80 (by decide) ?_
      refine lv_goto (tgt := 85) hx hb dX6_stepOf_81 (by decide) ?_
      refine uV (nL := 3) (wr := [(r 1, .inl (ca 0, 38, .inl (rwN s)))]) (ci := 4) (q0 := 0) (cq := (RX6, TX6, 34)) hx hb hml hown hts hK hA hP hD hS [.int (nI p), .int (nI 2)] [] (c_X6_proceed l D ca m r ((upd (upd g 8 (nI (sF (regs C) (3 * spC C p) 2 (p + 1)))) 10 ((-9)))) (qn C) hg9 (qn_lt C) p (spC C p) hp (by rw [qn_sp hp, if_neg (by omega)]) (by omega) 2 (by omega)) gX6_stepOf_X6_proceed rfl ⟨rfl, qX6_proceed⟩ ⟨Nat.le_of_ble_eq_true rfl, Nat.le_of_ble_eq_true rfl⟩ rfl rfl [0] [1] rfl rfl (by decide) (by decide) rfl hl.1 (Nat.le_of_ble_eq_true rfl) ⟨Nat.le_of_ble_eq_true rfl, Nat.le_of_ble_eq_true rfl⟩ dX6_stepOf_85 (oneK (wsN := [(m, .inr (4, mF r (upd (upd (upd g 8 (nI (sF (regs C) (3 * spC C p) 2 (p + 1)))) 9 (nI (sF (qn C) (8 * p) 8 (0 + 4 * (spC C p) + 64 * 2)))) 10 ((-9))))), (r 1, .inl (ca 0, 38, .inl (rwN s)))]) [1, 0] (by decide) rfl (st1 := [.int (nI 0)]) rfl 0 0 rfl rfl (fun H locs hP hD hS => ?_))
      have so := so_ok (C := C) (p := p) (k := k) (gp := gp) (g := g) (h := (upd (upd (upd g 8 (nI (sF (regs C) (3 * spC C p) 2 (p + 1)))) 9 (nI (sF (qn C) (8 * p) 8 (0 + 4 * (spC C p) + 64 * 2)))) 10 ((-9)))) (ans := 0) (t := (0, 2, spC C p)) hp hk.2 (by unfold stepF; rw [← hph, if_pos rfl, if_pos c77, hr0]) (by show 0 = (if (0 : Nat) = 1 then 1 else if (0 : Nat) = 0 ∧ spC C p = spC C p then 0 else _); rw [if_neg (by decide), if_pos ⟨rfl, rfl⟩]) (by show nI _ = nI _; unfold regF; rw [← hph, if_pos rfl]) rfl rfl rfl (fun i e8 e9 e10 e11 => by unfold upd; simp only [e8, e9, e10, e11, if_false])
      exact uRetI hx hb hr hlocks hK hP hD hS ⟨by rw [so.1], by rw [so.2]⟩ (Nat.le_of_ble_eq_true rfl) (Nat.le_of_ble_eq_true rfl) dX6_stepOf_88
  · refine lv_tableIn (tgt := 89) hx hb dX6_stepOf_17 (by decide) (by decide) rfl (by decide) ?_
    refine lv_aload_n hx hb dX6_stepOf_89 rfl (lv_at hl 1 rfl) ?_
    refine lv_iload_n hx hb dX6_stepOf_90 rfl (lv_at hl 0 rfl) ?_
    refine rdV (nL := 3) (ci := 4) (q0 := 0) (cq := (RX6, TX6, 34)) hx hb hml hown hts hK hP [.int (nI (spC C p))] [] (c_X6_doorIn l D ca m r ((upd g 10 ((-9)))) (regs C) hg8 (regs_lt hC) (spC C p) hs10) gX6_stepOf_X6_doorIn rfl ⟨rfl, qX6_doorIn⟩ ⟨Nat.le_of_ble_eq_true rfl, Nat.le_of_ble_eq_true rfl⟩ rfl rfl [0] rfl rfl hl.1 (Nat.le_of_ble_eq_true rfl) ⟨Nat.le_of_ble_eq_true rfl, Nat.le_of_ble_eq_true rfl⟩ dX6_stepOf_91 ?_
    rw [show (nI (gF (regs C) (3 * (spC C p) + 2) 1)) = (nI (doC C (spC C p))) from (by rw [regs_g]; rfl)]
    refine lv_iconst (v := nI 1) hx hb dX6_stepOf_94 (by decide) ?_
    refine n_ic_ne (tgt := 107) hx hb dX6_stepOf_95 (by decide) (by have := doC_lt C (spC C p); omega) (by decide) (fun c95 => ?_) (fun c95 => ?_)
    · refine lv_aload_n hx hb dX6_stepOf_107 rfl (lv_at hl 1 rfl) ?_
      refine lv_iload_n hx hb dX6_stepOf_108 rfl (lv_at hl 2 rfl) ?_
      refine lv_iconst (v := nI 2) hx hb dX6_stepOf_109 (by decide) ?_
      refine uV (nL := 3) (wr := [(r 1, .inl (ca 0, 38, .inl (rwN s)))]) (ci := 4) (q0 := 0) (cq := (RX6, TX6, 34)) hx hb hml hown hts hK hA hP hD hS [.int (nI p), .int (nI 2)] [] (c_X6_proceed l D ca m r ((upd g 10 ((-9)))) (qn C) hg9 (qn_lt C) p (spC C p) hp (by rw [qn_sp hp, if_neg (by omega)]) (by omega) 2 (by omega)) gX6_stepOf_X6_proceed rfl ⟨rfl, qX6_proceed⟩ ⟨Nat.le_of_ble_eq_true rfl, Nat.le_of_ble_eq_true rfl⟩ rfl rfl [0] [1] rfl rfl (by decide) (by decide) rfl hl.1 (Nat.le_of_ble_eq_true rfl) ⟨Nat.le_of_ble_eq_true rfl, Nat.le_of_ble_eq_true rfl⟩ dX6_stepOf_110 (oneK (wsN := [(m, .inr (4, mF r (upd (upd g 9 (nI (sF (qn C) (8 * p) 8 (0 + 4 * (spC C p) + 64 * 2)))) 10 ((-9))))), (r 1, .inl (ca 0, 38, .inl (rwN s)))]) [1, 0] (by decide) rfl (st1 := [.int (nI 0)]) rfl 0 0 rfl rfl (fun H locs hP hD hS => ?_))
      have so := so_ok (C := C) (p := p) (k := k) (gp := gp) (g := g) (h := (upd (upd g 9 (nI (sF (qn C) (8 * p) 8 (0 + 4 * (spC C p) + 64 * 2)))) 10 ((-9)))) (ans := 0) (t := (0, 2, spC C p)) hp hk.2 (by unfold stepF; rw [← hph, if_neg (by decide), if_pos rfl, if_neg c95, hr0]) (by show 0 = (if (0 : Nat) = 1 then 1 else if (0 : Nat) = 0 ∧ spC C p = spC C p then 0 else _); rw [if_neg (by decide), if_pos ⟨rfl, rfl⟩]) (by refine hg8.trans ?_; unfold regF; rw [← hph, if_neg (by decide), if_pos rfl]) rfl rfl rfl (fun i e8 e9 e10 e11 => by unfold upd; simp only [e8, e9, e10, e11, if_false])
      exact uRetI hx hb hr hlocks hK hP hD hS ⟨by rw [so.1], by rw [so.2]⟩ (Nat.le_of_ble_eq_true rfl) (Nat.le_of_ble_eq_true rfl) dX6_stepOf_113
    · refine lv_aload_n hx hb dX6_stepOf_98 rfl (lv_at hl 1 rfl) ?_
      refine lv_iload_n hx hb dX6_stepOf_99 rfl (lv_at hl 2 rfl) ?_
      refine lv_iconst (v := nI 1) hx hb dX6_stepOf_100 (by decide) ?_
      refine uV (nL := 3) (wr := []) (ci := 4) (q0 := 0) (cq := (RX6, TX6, 34)) hx hb hml hown hts hK hA hP hD hS [.int (nI p), .int (nI 1)] [] (c_X6_move l D ca m r ((upd g 10 ((-9)))) s k hs0 hk (qn C) hg9 (qn_lt C) p 1 (spC C p) hp (by decide) (by rw [qn_sp hp, if_neg (by omega)]) hs10 hsk) gX6_stepOf_X6_move rfl ⟨rfl, qX6_move⟩ ⟨Nat.le_of_ble_eq_true rfl, Nat.le_of_ble_eq_true rfl⟩ rfl rfl [0, 1] [] rfl rfl (by decide) (by decide) rfl hl.1 (Nat.le_of_ble_eq_true rfl) ⟨Nat.le_of_ble_eq_true rfl, Nat.le_of_ble_eq_true rfl⟩ dX6_stepOf_101 (oneK (wsN := [(m, .inr (4, mF r (upd (upd (upd g 9 (nI (sF (qn C) (8 * p) 8 (if k ≤ dgn (spC C p) + 1 then 62 else 4 * ((spC C p) + (dgn (spC C p) + 1) + (1 - 1)))))) 10 (nI (spC C p))) 11 (nI 1)))), (r 1, .inl (ca 0, 38, .inl (rwN s)))]) [0, 1] (by decide) rfl (st1 := [.int (nI ((if k ≤ dgn (spC C p) + 1 then 4 else 3 - 1)))]) rfl 0 0 rfl rfl (fun H locs hP hD hS => ?_))
      refine lv_goto (tgt := 113) hx hb dX6_stepOf_104 (by decide) ?_
      have so := so_mv (C := C) (p := p) (k := k) (gp := gp) (g := g) (h := (upd (upd (upd g 9 (nI (sF (qn C) (8 * p) 8 (if k ≤ dgn (spC C p) + 1 then 62 else 4 * ((spC C p) + (dgn (spC C p) + 1) + (1 - 1)))))) 10 (nI (spC C p))) 11 (nI 1))) (x := 1) hp hk.2 (by decide) (by rw [← hph]; rfl) (by unfold stepF; rw [← hph, if_neg (by decide), if_pos rfl, if_pos c95]) (by refine hg8.trans ?_; unfold regF; rw [← hph, if_neg (by decide), if_pos rfl]) rfl rfl rfl (fun i e8 e9 e10 e11 => by unfold upd; simp only [e8, e9, e10, e11, if_false])
      exact uRetI hx hb hr hlocks hK hP hD hS ⟨by rw [so.1], by rw [so.2]⟩ (Nat.le_of_ble_eq_true rfl) (Nat.le_of_ble_eq_true rfl) dX6_stepOf_113
  · refine lv_tableIn (tgt := 114) hx hb dX6_stepOf_17 (by decide) (by decide) rfl (by decide) ?_
    refine lv_aload_n hx hb dX6_stepOf_114 rfl (lv_at hl 1 rfl) ?_
    refine va_get (D := D) (ci := 4) (v := .ref (r 1)) (C := RX6) (T := TX6) (N := 34) hx hb hts hinX60 hown hK.1 hP 0 rfl rfl 1 (by decide) (hts (.fieldLink RX6 7 "RenamingGridModel" "s" "[I") (List.mem_of_getElem? (i := 3) rfl)) (fun _ h9 => h9) rfl dX6_stepOf_115 ?_
    refine lv_iconst (v := nI 2) hx hb dX6_stepOf_118 (by decide) ?_
    refine n_iald (D := D) (ca := ca) (v := (nI gp)) hx hb hK.1 hP 1 (f := (rwN s)) rfl (by omega) (by decide) (congrArg nI hs2) dX6_stepOf_119 ?_
    refine lv_iconst (v := nI 2) hx hb dX6_stepOf_120 (by decide) ?_
    refine n_ic_ne (tgt := 149) hx hb dX6_stepOf_121 (by decide) (by omega) (by decide) (fun c121 => ?_) (fun c121 => ?_)
    · refine lv_aload_n hx hb dX6_stepOf_149 rfl (lv_at hl 1 rfl) ?_
      refine lv_aload_n hx hb dX6_stepOf_150 rfl (lv_at hl 1 rfl) ?_
      refine lv_iload_n hx hb dX6_stepOf_151 rfl (lv_at hl 2 rfl) ?_
      refine uV (nL := 3) (wr := [(r 1, .inl (ca 0, 38, .inl (rwN s)))]) (ci := 4) (q0 := 0) (cq := (RX6, TX6, 34)) hx hb hml hown hts hK hA hP hD hS [.int (nI p)] [.ref m] (c_X6_closeDoor l D ca m r ((upd g 10 ((-9)))) (qn C) hg9 (qn_lt C) p (spC C p) hp (by rw [qn_sp hp, if_neg (by omega)]) (by omega) (regs C) hg8 hs10) gX6_stepOf_X6_closeDoor rfl ⟨rfl, qX6_closeDoor⟩ ⟨Nat.le_of_ble_eq_true rfl, Nat.le_of_ble_eq_true rfl⟩ rfl rfl [0] [1] rfl rfl (by decide) (by decide) rfl hl.1 (Nat.le_of_ble_eq_true rfl) ⟨Nat.le_of_ble_eq_true rfl, Nat.le_of_ble_eq_true rfl⟩ dX6_stepOf_152 (oneK (wsN := [(m, .inr (4, mF r (upd (upd g 8 (nI (sF (regs C) (3 * (spC C p) + 2) 1 1))) 10 ((-9))))), (r 1, .inl (ca 0, 38, .inl (rwN s)))]) [1, 0] (by decide) rfl (st1 := [.int (nI p), .ref m]) rfl 0 0 rfl rfl (fun H locs hP hD hS => ?_))
      refine lv_iconst (v := nI 3) hx hb dX6_stepOf_155 (by decide) ?_
      refine uV (nL := 3) (wr := [(r 1, .inl (ca 0, 38, .inl (rwN s)))]) (ci := 4) (q0 := 0) (cq := (RX6, TX6, 34)) hx hb hml hown hts hK hA hP hD hS [.int (nI p), .int (nI 3)] [] (c_X6_proceed l D ca m r ((upd (upd g 8 (nI (sF (regs C) (3 * (spC C p) + 2) 1 1))) 10 ((-9)))) (qn C) hg9 (qn_lt C) p (spC C p) hp (by rw [qn_sp hp, if_neg (by omega)]) (by omega) 3 (by omega)) gX6_stepOf_X6_proceed rfl ⟨rfl, qX6_proceed⟩ ⟨Nat.le_of_ble_eq_true rfl, Nat.le_of_ble_eq_true rfl⟩ rfl rfl [0] [1] rfl rfl (by decide) (by decide) rfl hl.1 (Nat.le_of_ble_eq_true rfl) ⟨Nat.le_of_ble_eq_true rfl, Nat.le_of_ble_eq_true rfl⟩ dX6_stepOf_156 (oneK (wsN := [(m, .inr (4, mF r (upd (upd (upd g 8 (nI (sF (regs C) (3 * (spC C p) + 2) 1 1))) 9 (nI (sF (qn C) (8 * p) 8 (0 + 4 * (spC C p) + 64 * 3)))) 10 ((-9))))), (r 1, .inl (ca 0, 38, .inl (rwN s)))]) [1, 0] (by decide) rfl (st1 := [.int (nI 0)]) rfl 0 0 rfl rfl (fun H locs hP hD hS => ?_))
      have so := so_ok (C := C) (p := p) (k := k) (gp := gp) (g := g) (h := (upd (upd (upd g 8 (nI (sF (regs C) (3 * (spC C p) + 2) 1 1))) 9 (nI (sF (qn C) (8 * p) 8 (0 + 4 * (spC C p) + 64 * 3)))) 10 ((-9)))) (ans := 0) (t := (0, 3, spC C p)) hp hk.2 (by unfold stepF; rw [← hph, if_neg (by decide), if_neg (by decide), if_neg c121, if_neg (by decide), if_pos rfl, hr0]) (by show 0 = (if (0 : Nat) = 1 then 1 else if (0 : Nat) = 0 ∧ spC C p = spC C p then 0 else _); rw [if_neg (by decide), if_pos ⟨rfl, rfl⟩]) (by show nI _ = nI _; unfold regF; rw [← hph, if_neg (by decide), if_neg (by decide), if_neg c121, if_neg (by decide)]) rfl rfl rfl (fun i e8 e9 e10 e11 => by unfold upd; simp only [e8, e9, e10, e11, if_false])
      exact uRetI hx hb hr hlocks hK hP hD hS ⟨by rw [so.1], by rw [so.2]⟩ (Nat.le_of_ble_eq_true rfl) (Nat.le_of_ble_eq_true rfl) dX6_stepOf_159
    · refine lv_aload_n hx hb dX6_stepOf_124 rfl (lv_at hl 1 rfl) ?_
      refine lv_iload_n hx hb dX6_stepOf_125 rfl (lv_at hl 0 rfl) ?_
      refine rdV (nL := 3) (ci := 4) (q0 := 0) (cq := (RX6, TX6, 34)) hx hb hml hown hts hK hP [.int (nI (spC C p))] [] (c_X6_ownerIn l D ca m r ((upd g 10 ((-9)))) (regs C) hg8 (regs_lt hC) (spC C p) hs10) gX6_stepOf_X6_ownerIn rfl ⟨rfl, qX6_ownerIn⟩ ⟨Nat.le_of_ble_eq_true rfl, Nat.le_of_ble_eq_true rfl⟩ rfl rfl [0] rfl rfl hl.1 (Nat.le_of_ble_eq_true rfl) ⟨Nat.le_of_ble_eq_true rfl, Nat.le_of_ble_eq_true rfl⟩ dX6_stepOf_126 ?_
      rw [show ((zI (gF (regs C) (3 * (spC C p)) 2))) = ((zI (owC C (spC C p)))) from (by rw [regs_g]; rfl)]
      have ow : zI (owC C (spC C p)) = nI p ↔ owC C (spC C p) = p + 1 := zI_eq (by have := owC_lt C (spC C p); omega) (by omega)
      refine lv_iload_n hx hb dX6_stepOf_129 rfl (lv_at hl 2 rfl) ?_
      refine lv_icmp_ne (tgt := 142) hx hb dX6_stepOf_130 (by decide) (fun c130 => ?_) (fun c130 => ?_)
      · refine lv_aload_n hx hb dX6_stepOf_142 rfl (lv_at hl 1 rfl) ?_
        refine lv_iload_n hx hb dX6_stepOf_143 rfl (lv_at hl 2 rfl) ?_
        refine lv_iconst (v := nI 0) hx hb dX6_stepOf_144 (by decide) ?_
        refine uV (nL := 3) (wr := []) (ci := 4) (q0 := 0) (cq := (RX6, TX6, 34)) hx hb hml hown hts hK hA hP hD hS [.int (nI p), .int (nI 0)] [] (c_X6_move l D ca m r ((upd g 10 ((-9)))) s k hs0 hk (qn C) hg9 (qn_lt C) p 0 (spC C p) hp (by decide) (by rw [qn_sp hp, if_neg (by omega)]) hs10 hsk) gX6_stepOf_X6_move rfl ⟨rfl, qX6_move⟩ ⟨Nat.le_of_ble_eq_true rfl, Nat.le_of_ble_eq_true rfl⟩ rfl rfl [0, 1] [] rfl rfl (by decide) (by decide) rfl hl.1 (Nat.le_of_ble_eq_true rfl) ⟨Nat.le_of_ble_eq_true rfl, Nat.le_of_ble_eq_true rfl⟩ dX6_stepOf_145 (oneK (wsN := [(m, .inr (4, mF r (upd (upd (upd g 9 (nI (sF (qn C) (8 * p) 8 (if k ≤ dgn (spC C p) + 1 then 62 else 4 * ((spC C p) + (dgn (spC C p) + 1) + (1 - 0)))))) 10 (nI (spC C p))) 11 (nI 0)))), (r 1, .inl (ca 0, 38, .inl (rwN s)))]) [0, 1] (by decide) rfl (st1 := [.int (nI ((if k ≤ dgn (spC C p) + 1 then 4 else 3 - 0)))]) rfl 0 0 rfl rfl (fun H locs hP hD hS => ?_))
        have so := so_mv (C := C) (p := p) (k := k) (gp := gp) (g := g) (h := (upd (upd (upd g 9 (nI (sF (qn C) (8 * p) 8 (if k ≤ dgn (spC C p) + 1 then 62 else 4 * ((spC C p) + (dgn (spC C p) + 1) + (1 - 0)))))) 10 (nI (spC C p))) 11 (nI 0))) (x := 0) hp hk.2 (by decide) (by rw [← hph]; rfl) (by unfold stepF; rw [← hph, if_neg (by decide), if_neg (by decide), if_pos c121, if_pos rfl, if_neg (fun z => c130 (ow.mpr z))]) (by refine hg8.trans ?_; unfold regF; rw [← hph, if_neg (by decide), if_neg (by decide), if_pos c121, if_pos rfl]) rfl rfl rfl (fun i e8 e9 e10 e11 => by unfold upd; simp only [e8, e9, e10, e11, if_false])
        exact uRetI hx hb hr hlocks hK hP hD hS ⟨by rw [so.1], by rw [so.2]⟩ (Nat.le_of_ble_eq_true rfl) (Nat.le_of_ble_eq_true rfl) dX6_stepOf_148
      · refine lv_aload_n hx hb dX6_stepOf_133 rfl (lv_at hl 1 rfl) ?_
        refine lv_iload_n hx hb dX6_stepOf_134 rfl (lv_at hl 2 rfl) ?_
        refine lv_iconst (v := nI 3) hx hb dX6_stepOf_135 (by decide) ?_
        refine uV (nL := 3) (wr := [(r 1, .inl (ca 0, 38, .inl (rwN s)))]) (ci := 4) (q0 := 0) (cq := (RX6, TX6, 34)) hx hb hml hown hts hK hA hP hD hS [.int (nI p), .int (nI 3)] [] (c_X6_proceed l D ca m r ((upd g 10 ((-9)))) (qn C) hg9 (qn_lt C) p (spC C p) hp (by rw [qn_sp hp, if_neg (by omega)]) (by omega) 3 (by omega)) gX6_stepOf_X6_proceed rfl ⟨rfl, qX6_proceed⟩ ⟨Nat.le_of_ble_eq_true rfl, Nat.le_of_ble_eq_true rfl⟩ rfl rfl [0] [1] rfl rfl (by decide) (by decide) rfl hl.1 (Nat.le_of_ble_eq_true rfl) ⟨Nat.le_of_ble_eq_true rfl, Nat.le_of_ble_eq_true rfl⟩ dX6_stepOf_136 (oneK (wsN := [(m, .inr (4, mF r (upd (upd g 9 (nI (sF (qn C) (8 * p) 8 (0 + 4 * (spC C p) + 64 * 3)))) 10 ((-9))))), (r 1, .inl (ca 0, 38, .inl (rwN s)))]) [1, 0] (by decide) rfl (st1 := [.int (nI 0)]) rfl 0 0 rfl rfl (fun H locs hP hD hS => ?_))
        refine lv_goto (tgt := 148) hx hb dX6_stepOf_139 (by decide) ?_
        have so := so_ok (C := C) (p := p) (k := k) (gp := gp) (g := g) (h := (upd (upd g 9 (nI (sF (qn C) (8 * p) 8 (0 + 4 * (spC C p) + 64 * 3)))) 10 ((-9)))) (ans := 0) (t := (0, 3, spC C p)) hp hk.2 (by unfold stepF; rw [← hph, if_neg (by decide), if_neg (by decide), if_pos c121, if_pos rfl, if_pos (ow.mp c130), if_pos rfl, hr0]) (by show 0 = (if (0 : Nat) = 1 then 1 else if (0 : Nat) = 0 ∧ spC C p = spC C p then 0 else _); rw [if_neg (by decide), if_pos ⟨rfl, rfl⟩]) (by refine hg8.trans ?_; unfold regF; rw [← hph, if_neg (by decide), if_neg (by decide), if_pos c121, if_pos rfl]) rfl rfl rfl (fun i e8 e9 e10 e11 => by unfold upd; simp only [e8, e9, e10, e11, if_false])
        exact uRetI hx hb hr hlocks hK hP hD hS ⟨by rw [so.1], by rw [so.2]⟩ (Nat.le_of_ble_eq_true rfl) (Nat.le_of_ble_eq_true rfl) dX6_stepOf_148
  · refine lv_tableOut (tgt := 160) hx hb dX6_stepOf_17 (Or.inr (by decide)) (by decide) ?_
    refine lv_aload_n hx hb dX6_stepOf_160 rfl (lv_at hl 1 rfl) ?_
    refine va_get (D := D) (ci := 4) (v := .ref (r 1)) (C := RX6) (T := TX6) (N := 34) hx hb hts hinX60 hown hK.1 hP 0 rfl rfl 1 (by decide) (hts (.fieldLink RX6 7 "RenamingGridModel" "s" "[I") (List.mem_of_getElem? (i := 3) rfl)) (fun _ h9 => h9) rfl dX6_stepOf_161 ?_
    refine lv_iconst (v := nI 2) hx hb dX6_stepOf_164 (by decide) ?_
    refine n_iald (D := D) (ca := ca) (v := (nI gp)) hx hb hK.1 hP 1 (f := (rwN s)) rfl (by omega) (by decide) (congrArg nI hs2) dX6_stepOf_165 ?_
    refine lv_iconst (v := nI 2) hx hb dX6_stepOf_166 (by decide) ?_
    refine n_ic_ne (tgt := 180) hx hb dX6_stepOf_167 (by decide) (by omega) (by decide) (fun c167 => ?_) (fun c167 => ?_)
    · refine lv_aload_n hx hb dX6_stepOf_180 rfl (lv_at hl 1 rfl) ?_
      refine lv_iload_n hx hb dX6_stepOf_181 rfl (lv_at hl 0 rfl) ?_
      refine rdV (nL := 3) (ci := 4) (q0 := 0) (cq := (RX6, TX6, 34)) hx hb hml hown hts hK hP [.int (nI (spC C p))] [] (c_X6_ownerIn l D ca m r ((upd g 10 ((-9)))) (regs C) hg8 (regs_lt hC) (spC C p) hs10) gX6_stepOf_X6_ownerIn rfl ⟨rfl, qX6_ownerIn⟩ ⟨Nat.le_of_ble_eq_true rfl, Nat.le_of_ble_eq_true rfl⟩ rfl rfl [0] rfl rfl hl.1 (Nat.le_of_ble_eq_true rfl) ⟨Nat.le_of_ble_eq_true rfl, Nat.le_of_ble_eq_true rfl⟩ dX6_stepOf_182 ?_
      rw [show ((zI (gF (regs C) (3 * (spC C p)) 2))) = ((zI (owC C (spC C p)))) from (by rw [regs_g]; rfl)]
      have ow : zI (owC C (spC C p)) = nI p ↔ owC C (spC C p) = p + 1 := zI_eq (by have := owC_lt C (spC C p); omega) (by omega)
      refine lv_iload_n hx hb dX6_stepOf_185 rfl (lv_at hl 2 rfl) ?_
      refine lv_icmp_ne (tgt := 197) hx hb dX6_stepOf_186 (by decide) (fun c186 => ?_) (fun c186 => ?_)
      · refine lv_aload_n hx hb dX6_stepOf_197 rfl (lv_at hl 1 rfl) ?_
        refine lv_iload_n hx hb dX6_stepOf_198 rfl (lv_at hl 2 rfl) ?_
        refine lv_iconst (v := nI 0) hx hb dX6_stepOf_199 (by decide) ?_
        refine uV (nL := 3) (wr := []) (ci := 4) (q0 := 0) (cq := (RX6, TX6, 34)) hx hb hml hown hts hK hA hP hD hS [.int (nI p), .int (nI 0)] [] (c_X6_move l D ca m r ((upd g 10 ((-9)))) s k hs0 hk (qn C) hg9 (qn_lt C) p 0 (spC C p) hp (by decide) (by rw [qn_sp hp, if_neg (by omega)]) hs10 hsk) gX6_stepOf_X6_move rfl ⟨rfl, qX6_move⟩ ⟨Nat.le_of_ble_eq_true rfl, Nat.le_of_ble_eq_true rfl⟩ rfl rfl [0, 1] [] rfl rfl (by decide) (by decide) rfl hl.1 (Nat.le_of_ble_eq_true rfl) ⟨Nat.le_of_ble_eq_true rfl, Nat.le_of_ble_eq_true rfl⟩ dX6_stepOf_200 (oneK (wsN := [(m, .inr (4, mF r (upd (upd (upd g 9 (nI (sF (qn C) (8 * p) 8 (if k ≤ dgn (spC C p) + 1 then 62 else 4 * ((spC C p) + (dgn (spC C p) + 1) + (1 - 0)))))) 10 (nI (spC C p))) 11 (nI 0)))), (r 1, .inl (ca 0, 38, .inl (rwN s)))]) [0, 1] (by decide) rfl (st1 := [.int (nI ((if k ≤ dgn (spC C p) + 1 then 4 else 3 - 0)))]) rfl 0 0 rfl rfl (fun H locs hP hD hS => ?_))
        have so := so_mv (C := C) (p := p) (k := k) (gp := gp) (g := g) (h := (upd (upd (upd g 9 (nI (sF (qn C) (8 * p) 8 (if k ≤ dgn (spC C p) + 1 then 62 else 4 * ((spC C p) + (dgn (spC C p) + 1) + (1 - 0)))))) 10 (nI (spC C p))) 11 (nI 0))) (x := 0) hp hk.2 (by decide) (by rw [← hph]; rfl) (by unfold stepF; rw [← hph, if_neg (by decide), if_neg (by decide), if_neg c167, if_pos rfl, if_neg (fun z => c186 (ow.mpr z))]) (by refine hg8.trans ?_; unfold regF; rw [← hph, if_neg (by decide), if_neg (by decide), if_neg c167, if_pos rfl]) rfl rfl rfl (fun i e8 e9 e10 e11 => by unfold upd; simp only [e8, e9, e10, e11, if_false])
        exact uRetI hx hb hr hlocks hK hP hD hS ⟨by rw [so.1], by rw [so.2]⟩ (Nat.le_of_ble_eq_true rfl) (Nat.le_of_ble_eq_true rfl) dX6_stepOf_203
      · refine lv_aload_n hx hb dX6_stepOf_189 rfl (lv_at hl 1 rfl) ?_
        refine lv_iload_n hx hb dX6_stepOf_190 rfl (lv_at hl 2 rfl) ?_
        refine uV (nL := 3) (wr := [(r 1, .inl (ca 0, 38, .inl (rwN s)))]) (ci := 4) (q0 := 0) (cq := (RX6, TX6, 34)) hx hb hml hown hts hK hA hP hD hS [.int (nI p)] [] (c_X6_becomeNamed l D ca m r ((upd g 10 ((-9)))) (qn C) hg9 (qn_lt C) p (spC C p) hp (by rw [qn_sp hp, if_neg (by omega)]) (by omega) 3 (by rw [qn_ph hp]; exact hph.symm) (by decide)) gX6_stepOf_X6_becomeNamed rfl ⟨rfl, qX6_becomeNamed⟩ ⟨Nat.le_of_ble_eq_true rfl, Nat.le_of_ble_eq_true rfl⟩ rfl rfl [0] [1] rfl rfl (by decide) (by decide) rfl hl.1 (Nat.le_of_ble_eq_true rfl) ⟨Nat.le_of_ble_eq_true rfl, Nat.le_of_ble_eq_true rfl⟩ dX6_stepOf_191 (oneK (wsN := [(m, .inr (4, mF r (upd (upd g 9 (nI (sF (qn C) (8 * p) 8 (1 + 4 * (spC C p) + 64 * 3)))) 10 ((-9))))), (r 1, .inl (ca 0, 38, .inl (rwN s)))]) [1, 0] (by decide) rfl (st1 := [.int (nI 1)]) rfl 0 0 rfl rfl (fun H locs hP hD hS => ?_))
        refine lv_goto (tgt := 203) hx hb dX6_stepOf_194 (by decide) ?_
        have so := so_ok (C := C) (p := p) (k := k) (gp := gp) (g := g) (h := (upd (upd g 9 (nI (sF (qn C) (8 * p) 8 (1 + 4 * (spC C p) + 64 * 3)))) 10 ((-9)))) (ans := 1) (t := (1, 3, spC C p)) hp hk.2 (by unfold stepF; rw [← hph, if_neg (by decide), if_neg (by decide), if_neg c167, if_pos rfl, if_pos (ow.mp c186), if_neg (by decide)]) (rfl) (by refine hg8.trans ?_; unfold regF; rw [← hph, if_neg (by decide), if_neg (by decide), if_neg c167, if_pos rfl]) rfl rfl rfl (fun i e8 e9 e10 e11 => by unfold upd; simp only [e8, e9, e10, e11, if_false])
        exact uRetI hx hb hr hlocks hK hP hD hS ⟨by rw [so.1], by rw [so.2]⟩ (Nat.le_of_ble_eq_true rfl) (Nat.le_of_ble_eq_true rfl) dX6_stepOf_203
    · refine lv_aload_n hx hb dX6_stepOf_170 rfl (lv_at hl 1 rfl) ?_
      refine lv_aload_n hx hb dX6_stepOf_171 rfl (lv_at hl 1 rfl) ?_
      refine lv_iload_n hx hb dX6_stepOf_172 rfl (lv_at hl 2 rfl) ?_
      refine uV (nL := 3) (wr := [(r 1, .inl (ca 0, 38, .inl (rwN s)))]) (ci := 4) (q0 := 0) (cq := (RX6, TX6, 34)) hx hb hml hown hts hK hA hP hD hS [.int (nI p)] [.ref m] (c_X6_closeDoor l D ca m r ((upd g 10 ((-9)))) (qn C) hg9 (qn_lt C) p (spC C p) hp (by rw [qn_sp hp, if_neg (by omega)]) (by omega) (regs C) hg8 hs10) gX6_stepOf_X6_closeDoor rfl ⟨rfl, qX6_closeDoor⟩ ⟨Nat.le_of_ble_eq_true rfl, Nat.le_of_ble_eq_true rfl⟩ rfl rfl [0] [1] rfl rfl (by decide) (by decide) rfl hl.1 (Nat.le_of_ble_eq_true rfl) ⟨Nat.le_of_ble_eq_true rfl, Nat.le_of_ble_eq_true rfl⟩ dX6_stepOf_173 (oneK (wsN := [(m, .inr (4, mF r (upd (upd g 8 (nI (sF (regs C) (3 * (spC C p) + 2) 1 1))) 10 ((-9))))), (r 1, .inl (ca 0, 38, .inl (rwN s)))]) [1, 0] (by decide) rfl (st1 := [.int (nI p), .ref m]) rfl 0 0 rfl rfl (fun H locs hP hD hS => ?_))
      refine uV (nL := 3) (wr := [(r 1, .inl (ca 0, 38, .inl (rwN s)))]) (ci := 4) (q0 := 0) (cq := (RX6, TX6, 34)) hx hb hml hown hts hK hA hP hD hS [.int (nI p)] [] (c_X6_becomeNamed l D ca m r ((upd (upd g 8 (nI (sF (regs C) (3 * (spC C p) + 2) 1 1))) 10 ((-9)))) (qn C) hg9 (qn_lt C) p (spC C p) hp (by rw [qn_sp hp, if_neg (by omega)]) (by omega) 3 (by rw [qn_ph hp]; exact hph.symm) (by decide)) gX6_stepOf_X6_becomeNamed rfl ⟨rfl, qX6_becomeNamed⟩ ⟨Nat.le_of_ble_eq_true rfl, Nat.le_of_ble_eq_true rfl⟩ rfl rfl [0] [1] rfl rfl (by decide) (by decide) rfl hl.1 (Nat.le_of_ble_eq_true rfl) ⟨Nat.le_of_ble_eq_true rfl, Nat.le_of_ble_eq_true rfl⟩ dX6_stepOf_176 (oneK (wsN := [(m, .inr (4, mF r (upd (upd (upd g 8 (nI (sF (regs C) (3 * (spC C p) + 2) 1 1))) 9 (nI (sF (qn C) (8 * p) 8 (1 + 4 * (spC C p) + 64 * 3)))) 10 ((-9))))), (r 1, .inl (ca 0, 38, .inl (rwN s)))]) [1, 0] (by decide) rfl (st1 := [.int (nI 1)]) rfl 0 0 rfl rfl (fun H locs hP hD hS => ?_))
      have so := so_ok (C := C) (p := p) (k := k) (gp := gp) (g := g) (h := (upd (upd (upd g 8 (nI (sF (regs C) (3 * (spC C p) + 2) 1 1))) 9 (nI (sF (qn C) (8 * p) 8 (1 + 4 * (spC C p) + 64 * 3)))) 10 ((-9)))) (ans := 1) (t := (1, 3, spC C p)) hp hk.2 (by unfold stepF; rw [← hph, if_neg (by decide), if_neg (by decide), if_pos c167, if_neg (by decide), if_neg (by decide)]) (rfl) (by show nI _ = nI _; unfold regF; rw [← hph, if_neg (by decide), if_neg (by decide), if_pos c167, if_neg (by decide)]) rfl rfl rfl (fun i e8 e9 e10 e11 => by unfold upd; simp only [e8, e9, e10, e11, if_false])
      exact uRetI hx hb hr hlocks hK hP hD hS ⟨by rw [so.1], by rw [so.2]⟩ (Nat.le_of_ble_eq_true rfl) (Nat.le_of_ble_eq_true rfl) dX6_stepOf_179

