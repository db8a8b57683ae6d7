set_option maxHeartbeats 4000000 in
set_option maxRecDepth 100000 in
theorem c_X2_isFinal (l : Launch) (D : va_G) (ca : Nat → ClassId) (xa fo pa mo ta ou : Nat) (cnt n C : Nat) (hC : C < 2 ^ 54) (hn : n ≤ 3) : RD l D ca yX2_isFinal wsX2_isFinal 1 22 [(xa, .inr (0, [.ref fo, .ref pa, .ref mo, .ref ta, .ref ou, .int (nI cnt), .int (nI n)]))] [.ref xa, .long (lN C)] (.int (nI (bN (decide (finP n C))))) := by
  refine RD.start (cc := cX2_isFinal) (maxL := 4) (ret := (some .boolean)) (by decide) rfl (Nat.le_of_ble_eq_true rfl) ?_
  intro p_ e_ s_ m_ below_ meth_ c_ hx hb hml hr hlocks hown hts hP hK ls hl
  have hown : s_.vm.findClass RX2 = some m_.cls := hown
  have hl : lv_has ls 4 [(0, .ref xa), (1, .long (lN C))] := hl
  have hinX20 : ∀ w ∈ wsX20, w ∈ wsX2_isFinal := fun w h => List.mem_cons_of_mem _ (List.mem_append_right _ h)
  refine lv_iconst (v := nI 0) hx hb dX2_isFinal_0 (by decide) ?_
  refine lv_istore_n (lv' := [(3, .int (nI 0)), (0, .ref xa), (1, .long (lN C))]) hx hb dX2_isFinal_1 rfl hl (by decide) rfl (fun ls hl => ?_)
  have loop2 : ∀ (N_ : Nat) (p : Nat) (hi : p ≤ n) (h0 : runC C p = 0) (hf : n < p + N_), ∀ (ls : Array Slot), lv_has ls 4 [(3, .int (nI p)), (0, .ref xa), (1, .long (lN C))] → W p_ l e_ ({ frames := 1, cells := 0, slots := 0, locals := 22 }) s_ m_ ([.ref xa, .long (lN C)]).toArray below_ meth_ c_ s_.heap [] 0 0 (MQ below_ (k2_QcV (.int (nI (bN (decide (finP n C)))))) ([.ref xa, .long (lN C)]).toArray s_ 0 0 (fun _ => False)) (F0 m_ 2 ls []) := by
    intro N_
    induction N_ with
    | zero => intro p hi h0 hf; exfalso; omega
    | succ N_ ih2 =>
      intro p hi h0 hf ls hl
      refine lv_iload_n hx hb dX2_isFinal_2 rfl (lv_at hl 0 rfl) ?_
      refine lv_aload_n hx hb dX2_isFinal_3 rfl (lv_at hl 1 rfl) ?_
      refine va_get (D := D) (ci := 0) (v := .int (nI n)) (C := RX2) (T := TX2) (N := 7) hx hb hts hinX20 hown hK.1 hP 0 rfl rfl 6 (by decide) (hts (.fieldLink RX2 43 "RenamingGrid$Exploration" "processes" "I") (List.mem_of_getElem? (i := 1) rfl)) (fun _ h9 => h9) rfl dX2_isFinal_4 ?_
      refine n_ic_ge (tgt := 26) hx hb dX2_isFinal_7 (by decide) (by omega) (by omega) (fun c7 => ?_) (fun c7 => ?_)
      · refine lv_iconst (v := nI 1) hx hb dX2_isFinal_26 (by decide) ?_
        exact rRetZ hx hb hr hlocks rfl (congrArg (fun z => Value.int (nI z)) (bN_t (show runC C n = 0 by rw [show n = p by omega]; exact h0)).symm) dX2_isFinal_27
      · refine lv_lload_n hx hb dX2_isFinal_10 rfl (lv_at hl 2 rfl) ?_
        refine lv_iload_n hx hb dX2_isFinal_11 rfl (lv_at hl 0 rfl) ?_
        refine rdS (nL := 4) hx hb hml hown hts hK hP [.long (lN C), .int (nI p)] [] (c_X0_statusIn l D ca C p hC (by omega)) gX2_isFinal_X0_statusIn rfl qX0_statusIn ⟨Nat.le_of_ble_eq_true rfl, Nat.le_of_ble_eq_true rfl⟩ [] rfl rfl hl.1 (Nat.le_of_ble_eq_true rfl) ⟨Nat.le_of_ble_eq_true rfl, Nat.le_of_ble_eq_true rfl⟩ dX2_isFinal_12 ?_
        refine n_if_ne (tgt := 20) hx hb dX2_isFinal_15 (by decide) (stC_b _ _) (fun c15 => ?_) (fun c15 => ?_)
        · refine lv_iinc (v := (nI (p + 1))) (lv' := [(3, .int (nI (p + 1))), (0, .ref xa), (1, .long (lN C))]) hx hb dX2_isFinal_20 hl (k := 0) rfl (show nI p + Int32.ofInt 1 = nI (p + 1) from nI_add _ 1) (by decide) rfl (fun ls hl => ?_)
          refine lv_goto (tgt := 2) hx hb dX2_isFinal_23 (by decide) ?_
          exact ih2 (p + 1) (by omega) (by rw [runC_f c15]; exact h0) (by omega) ls (lv_sub hl [0, 1, 2] rfl)
        · refine lv_iconst (v := nI 0) hx hb dX2_isFinal_18 (by decide) ?_
          exact rRetZ hx hb hr hlocks rfl (congrArg (fun z => Value.int (nI z)) (bN_f (fun z => by have h1 := runC_t c15; have h2 := runC_mono C (show p + 1 ≤ n by omega); rw [z] at h2; omega)).symm) dX2_isFinal_19
  exact loop2 (n + 1) 0 (by omega) rfl (by omega) ls (lv_sub hl [0, 1, 2] rfl)

set_option maxHeartbeats 4000000 in
set_option maxRecDepth 100000 in
theorem c_X2_isViolation (l : Launch) (D : va_G) (ca : Nat → ClassId) (xa fo pa mo ta ou : Nat) (cnt n C : Nat) (hC : C < 2 ^ 54) (hn : n ≤ 3) (hn1 : 1 ≤ n) : RD l D ca yX2_isViolation wsX2_isViolation 2 44 [(xa, .inr (0, [.ref fo, .ref pa, .ref mo, .ref ta, .ref ou, .int (nI cnt), .int (nI n)]))] [.ref xa, .long (lN C)] (.int (nI (bN (decide (vioB C n = true))))) := by
  refine RD.start (cc := cX2_isViolation) (maxL := 6) (ret := (some .boolean)) (by decide) rfl (Nat.le_of_ble_eq_true rfl) ?_
  intro p_ e_ s_ m_ below_ meth_ c_ hx hb hml hr hlocks hown hts hP hK ls hl
  have hown : s_.vm.findClass RX2 = some m_.cls := hown
  have hl : lv_has ls 6 [(0, .ref xa), (1, .long (lN C))] := hl
  have hinX20 : ∀ w ∈ wsX20, w ∈ wsX2_isViolation := fun w h => List.mem_cons_of_mem _ (List.mem_append_right _ h)
  refine lv_iconst (v := nI 1) hx hb dX2_isViolation_0 (by decide) ?_
  refine lv_istore_n (lv' := [(3, .int (nI 1)), (0, .ref xa), (1, .long (lN C))]) hx hb dX2_isViolation_1 rfl hl (by decide) rfl (fun ls hl => ?_)
  have loopA : ∀ (N_ : Nat) (p : Nat) (hi : p ≤ n) (h1 : 1 ≤ p) (h0 : vioB C p = false) (hf : n < p + N_), ∀ (ls : Array Slot), lv_has ls 6 [(3, .int (nI p)), (0, .ref xa), (1, .long (lN C))] → W p_ l e_ ({ frames := 2, cells := 0, slots := 0, locals := 44 }) s_ m_ ([.ref xa, .long (lN C)]).toArray below_ meth_ c_ s_.heap [] 0 0 (MQ below_ (k2_QcV (.int (nI (bN (decide (vioB C n = true)))))) ([.ref xa, .long (lN C)]).toArray s_ 0 0 (fun _ => False)) (F0 m_ 2 ls []) := by
    intro N_
    induction N_ with
    | zero => intro p hi h1 h0 hf; exfalso; omega
    | succ N_ ih2 =>
      intro p hi h1 h0 hf ls hl
      refine lv_iload_n hx hb dX2_isViolation_2 rfl (lv_at hl 0 rfl) ?_
      refine lv_aload_n hx hb dX2_isViolation_3 rfl (lv_at hl 1 rfl) ?_
      refine va_get (D := D) (ci := 0) (v := .int (nI n)) (C := RX2) (T := TX2) (N := 7) hx hb hts hinX20 hown hK.1 hP 0 rfl rfl 6 (by decide) (hts (.fieldLink RX2 43 "RenamingGrid$Exploration" "processes" "I") (List.mem_of_getElem? (i := 1) rfl)) (fun _ h9 => h9) rfl dX2_isViolation_4 ?_
      refine n_ic_ge (tgt := 58) hx hb dX2_isViolation_7 (by decide) (by omega) (by omega) (fun c7 => ?_) (fun c7 => ?_)
      · refine lv_iconst (v := nI 0) hx hb dX2_isViolation_58 (by decide) ?_
        exact rRetZ hx hb hr hlocks rfl (congrArg (fun z => Value.int (nI z)) (bN_f (fun z => by rw [show p = n by omega] at h0; rw [h0] at z; exact absurd z (by decide))).symm) dX2_isViolation_59
      · refine lv_lload_n hx hb dX2_isViolation_10 rfl (lv_at hl 2 rfl) ?_
        refine lv_iload_n hx hb dX2_isViolation_11 rfl (lv_at hl 0 rfl) ?_
        refine rdS (nL := 6) hx hb hml hown hts hK hP [.long (lN C), .int (nI p)] [] (c_X0_nameIn l D ca C p hC (by omega)) gX2_isViolation_X0_nameIn rfl qX0_nameIn ⟨Nat.le_of_ble_eq_true rfl, Nat.le_of_ble_eq_true rfl⟩ [] rfl rfl hl.1 (Nat.le_of_ble_eq_true rfl) ⟨Nat.le_of_ble_eq_true rfl, Nat.le_of_ble_eq_true rfl⟩ dX2_isViolation_12 ?_
        rw [show ((nmC C p)) = ((n9 (nmZ C p))) from nmC_z C p]
        refine lv_istore (lv' := [(4, .int ((n9 (nmZ C p)))), (3, .int (nI p)), (0, .ref xa), (1, .long (lN C))]) hx hb dX2_isViolation_15 hl (by decide) rfl (fun ls hl => ?_)
        refine lv_iconst (v := nI 0) hx hb dX2_isViolation_17 (by decide) ?_
        refine lv_istore (lv' := [(5, .int (nI 0)), (4, .int ((n9 (nmZ C p)))), (3, .int (nI p)), (0, .ref xa), (1, .long (lN C))]) hx hb dX2_isViolation_18 hl (by decide) rfl (fun ls hl => ?_)
        have loopB : ∀ (N_ : Nat) (q : Nat) (hq : q ≤ p) (hq0 : vqB C p q = false) (hfq : p < q + N_), ∀ (ls : Array Slot), lv_has ls 6 [(5, .int (nI q)), (4, .int ((n9 (nmZ C p)))), (3, .int (nI p)), (0, .ref xa), (1, .long (lN C))] → W p_ l e_ ({ frames := 2, cells := 0, slots := 0, locals := 44 }) s_ m_ ([.ref xa, .long (lN C)]).toArray below_ meth_ c_ s_.heap [] 0 0 (MQ below_ (k2_QcV (.int (nI (bN (decide (vioB C n = true)))))) ([.ref xa, .long (lN C)]).toArray s_ 0 0 (fun _ => False)) (F0 m_ 20 ls []) := by
          intro N_
          induction N_ with
          | zero => intro q hq hq0 hfq; exfalso; omega
          | succ N_ ih20 =>
            intro q hq hq0 hfq ls hl
            refine lv_iload hx hb dX2_isViolation_20 (lv_at hl 0 rfl) ?_
            refine lv_iload_n hx hb dX2_isViolation_22 rfl (lv_at hl 2 rfl) ?_
            refine n_ic_ge (tgt := 52) hx hb dX2_isViolation_23 (by decide) (by omega) (by omega) (fun c23 => ?_) (fun c23 => ?_)
            · refine lv_iinc (v := (nI (p + 1))) (lv' := [(3, .int (nI (p + 1))), (5, .int (nI q)), (4, .int ((n9 (nmZ C p)))), (0, .ref xa), (1, .long (lN C))]) hx hb dX2_isViolation_52 hl (k := 2) rfl (show nI p + Int32.ofInt 1 = nI (p + 1) from nI_add _ 1) (by decide) rfl (fun ls hl => ?_)
              refine lv_goto (tgt := 2) hx hb dX2_isViolation_55 (by decide) ?_
              exact ih2 (p + 1) (by omega) (by omega) (vioB_no h0 ((show q = p by omega) ▸ hq0)) (by omega) ls (lv_sub hl [0, 3, 4] rfl)
            · refine lv_iload hx hb dX2_isViolation_26 (lv_at hl 1 rfl) ?_
              refine lv_bipush (v := -9) hx hb dX2_isViolation_28 (by decide) ?_
              refine lv_icmp_eq (tgt := 46) hx hb dX2_isViolation_30 (by decide) (fun c30 => ?_) (fun c30 => ?_)
              · refine lv_iinc (v := (nI (q + 1))) (lv' := [(5, .int (nI (q + 1))), (4, .int ((n9 (nmZ C p)))), (3, .int (nI p)), (0, .ref xa), (1, .long (lN C))]) hx hb dX2_isViolation_46 hl (k := 0) rfl (show nI q + Int32.ofInt 1 = nI (q + 1) from nI_add _ 1) (by decide) rfl (fun ls hl => ?_)
                refine lv_goto (tgt := 20) hx hb dX2_isViolation_49 (by decide) ?_
                exact ih20 (q + 1) (by omega) (vqB_no hq0 (by intro z; first | exact z.1 ((n9_m9 (Nat.le_trans (nmZ_le _ _) (by decide))).mp c30) | exact c41 (by rw [z.2]))) (by omega) ls (lv_sub hl [0, 1, 2, 3, 4] rfl)
              · refine lv_iload hx hb dX2_isViolation_33 (lv_at hl 1 rfl) ?_
                refine lv_lload_n hx hb dX2_isViolation_35 rfl (lv_at hl 4 rfl) ?_
                refine lv_iload hx hb dX2_isViolation_36 (lv_at hl 0 rfl) ?_
                refine rdS (nL := 6) hx hb hml hown hts hK hP [.long (lN C), .int (nI q)] [.int ((n9 (nmZ C p)))] (c_X0_nameIn l D ca C q hC (by omega)) gX2_isViolation_X0_nameIn rfl qX0_nameIn ⟨Nat.le_of_ble_eq_true rfl, Nat.le_of_ble_eq_true rfl⟩ [] rfl rfl hl.1 (Nat.le_of_ble_eq_true rfl) ⟨Nat.le_of_ble_eq_true rfl, Nat.le_of_ble_eq_true rfl⟩ dX2_isViolation_38 ?_
                rw [show ((nmC C q)) = ((n9 (nmZ C q))) from nmC_z C q]
                refine lv_icmp_ne (tgt := 46) hx hb dX2_isViolation_41 (by decide) (fun c41 => ?_) (fun c41 => ?_)
                · refine lv_iinc (v := (nI (q + 1))) (lv' := [(5, .int (nI (q + 1))), (4, .int ((n9 (nmZ C p)))), (3, .int (nI p)), (0, .ref xa), (1, .long (lN C))]) hx hb dX2_isViolation_46 hl (k := 0) rfl (show nI q + Int32.ofInt 1 = nI (q + 1) from nI_add _ 1) (by decide) rfl (fun ls hl => ?_)
                  refine lv_goto (tgt := 20) hx hb dX2_isViolation_49 (by decide) ?_
                  exact ih20 (q + 1) (by omega) (vqB_no hq0 (by intro z; first | exact z.1 ((n9_m9 (Nat.le_trans (nmZ_le _ _) (by decide))).mp c30) | exact c41 (by rw [z.2]))) (by omega) ls (lv_sub hl [0, 1, 2, 3, 4] rfl)
                · refine lv_iconst (v := nI 1) hx hb dX2_isViolation_44 (by decide) ?_
                  exact rRetZ hx hb hr hlocks rfl (congrArg (fun z => Value.int (nI z)) (bN_t (vio_hit c23 c7 (fun z => c30 ((n9_m9 (Nat.le_trans (nmZ_le _ _) (by decide))).mpr z)) ((n9_inj (Nat.le_trans (nmZ_le _ _) (by decide)) (Nat.le_trans (nmZ_le _ _) (by decide))).mp c41))).symm) dX2_isViolation_45
        exact loopB (p + 1) 0 (by omega) rfl (by omega) ls (lv_sub hl [0, 1, 2, 3, 4] rfl)
  exact loopA (n + 1) 1 (by omega) (by decide) rfl (by omega) ls (lv_sub hl [0, 1, 2] rfl)

set_option maxHeartbeats 4000000 in
set_option maxRecDepth 100000 in
theorem c_X2_outcomeOf (l : Launch) (D : va_G) (ca : Nat → ClassId) (xa fo pa mo ta ou : Nat) (cnt n C : Nat) (hC : C < 2 ^ 54) (hn : n ≤ 3) : RD l D ca yX2_outcomeOf wsX2_outcomeOf 2 44 [(xa, .inr (0, [.ref fo, .ref pa, .ref mo, .ref ta, .ref ou, .int (nI cnt), .int (nI n)]))] [.ref xa, .long (lN C)] (.int (nI (ocP C n))) := by
  refine RD.start (cc := cX2_outcomeOf) (maxL := 6) (ret := (some .int)) (by decide) rfl (Nat.le_of_ble_eq_true rfl) ?_
  intro p_ e_ s_ m_ below_ meth_ c_ hx hb hml hr hlocks hown hts hP hK ls hl
  have hown : s_.vm.findClass RX2 = some m_.cls := hown
  have hl : lv_has ls 6 [(0, .ref xa), (1, .long (lN C))] := hl
  have hinX20 : ∀ w ∈ wsX20, w ∈ wsX2_outcomeOf := fun w h => List.mem_cons_of_mem _ (List.mem_append_right _ h)
  refine lv_iconst (v := nI 0) hx hb dX2_outcomeOf_0 (by decide) ?_
  refine lv_istore_n (lv' := [(3, .int (nI 0)), (0, .ref xa), (1, .long (lN C))]) hx hb dX2_outcomeOf_1 rfl hl (by decide) rfl (fun ls hl => ?_)
  refine lv_iconst (v := nI 0) hx hb dX2_outcomeOf_2 (by decide) ?_
  refine lv_istore (lv' := [(4, .int (nI 0)), (3, .int (nI 0)), (0, .ref xa), (1, .long (lN C))]) hx hb dX2_outcomeOf_3 hl (by decide) rfl (fun ls hl => ?_)
  have loop5 : ∀ (N_ : Nat) (p : Nat) (o : Nat) (hi : p ≤ n) (ho : o = ocP C p) (hf : n < p + N_), ∀ (ls : Array Slot), lv_has ls 6 [(4, .int (nI p)), (3, .int (nI o)), (0, .ref xa), (1, .long (lN C))] → W p_ l e_ ({ frames := 2, cells := 0, slots := 0, locals := 44 }) s_ m_ ([.ref xa, .long (lN C)]).toArray below_ meth_ c_ s_.heap [] 0 0 (MQ below_ (k2_QcV (.int (nI (ocP C n)))) ([.ref xa, .long (lN C)]).toArray s_ 0 0 (fun _ => False)) (F0 m_ 5 ls []) := by
    intro N_
    induction N_ with
    | zero => intro p o hi ho hf; exfalso; omega
    | succ N_ ih5 =>
      intro p o hi ho hf ls hl
      refine lv_iload hx hb dX2_outcomeOf_5 (lv_at hl 0 rfl) ?_
      refine lv_aload_n hx hb dX2_outcomeOf_7 rfl (lv_at hl 2 rfl) ?_
      refine va_get (D := D) (ci := 0) (v := .int (nI n)) (C := RX2) (T := TX2) (N := 7) hx hb hts hinX20 hown hK.1 hP 0 rfl rfl 6 (by decide) (hts (.fieldLink RX2 43 "RenamingGrid$Exploration" "processes" "I") (List.mem_of_getElem? (i := 1) rfl)) (fun _ h9 => h9) rfl dX2_outcomeOf_8 ?_
      refine n_ic_ge (tgt := 49) hx hb dX2_outcomeOf_11 (by decide) (by omega) (by omega) (fun c11 => ?_) (fun c11 => ?_)
      · refine lv_iload_n hx hb dX2_outcomeOf_49 rfl (lv_at hl 1 rfl) ?_
        exact rRetI hx hb hr hlocks (congrArg (fun z => Value.int (nI z)) (by rw [ho, show p = n by omega])) dX2_outcomeOf_50
      · refine lv_lload_n hx hb dX2_outcomeOf_14 rfl (lv_at hl 3 rfl) ?_
        refine lv_iload hx hb dX2_outcomeOf_15 (lv_at hl 0 rfl) ?_
        refine rdS (nL := 6) hx hb hml hown hts hK hP [.long (lN C), .int (nI p)] [] (c_X0_nameIn l D ca C p hC (by omega)) gX2_outcomeOf_X0_nameIn rfl qX0_nameIn ⟨Nat.le_of_ble_eq_true rfl, Nat.le_of_ble_eq_true rfl⟩ [] rfl rfl hl.1 (Nat.le_of_ble_eq_true rfl) ⟨Nat.le_of_ble_eq_true rfl, Nat.le_of_ble_eq_true rfl⟩ dX2_outcomeOf_17 ?_
        rw [show ((nmC C p)) = ((n9 (nmZ C p))) from nmC_z C p]
        refine lv_istore (lv' := [(5, .int ((n9 (nmZ C p)))), (4, .int (nI p)), (3, .int (nI o)), (0, .ref xa), (1, .long (lN C))]) hx hb dX2_outcomeOf_20 hl (by decide) rfl (fun ls hl => ?_)
        refine lv_iload_n hx hb dX2_outcomeOf_22 rfl (lv_at hl 2 rfl) ?_
        refine lv_bipush (v := nI 16) hx hb dX2_outcomeOf_23 (by decide) ?_
        refine n_imul hx hb dX2_outcomeOf_25 ?_
        refine lv_iload hx hb dX2_outcomeOf_26 (lv_at hl 0 rfl) ?_
        refine lv_bipush (v := -9) hx hb dX2_outcomeOf_28 (by decide) ?_
        refine lv_icmp_ne (tgt := 37) hx hb dX2_outcomeOf_30 (by decide) (fun c30 => ?_) (fun c30 => ?_)
        · have hz0 : 0 < nmZ C p := Nat.pos_of_ne_zero (fun z => c30 ((n9_m9 (Nat.le_trans (nmZ_le _ _) (by decide))).mpr z))
          refine lv_iload hx hb dX2_outcomeOf_37 (lv_at hl 0 rfl) ?_
          refine lv_iconst (v := nI 1) hx hb dX2_outcomeOf_39 (by decide) ?_
          refine lv_iadd hx hb dX2_outcomeOf_40 ?_
          rw [show ((((n9 (nmZ C p))) + (nI 1))) = (nI (nmZ C p)) from (by rw [n9_p hz0, nI_add]; congr 1; omega)]
          refine n_iadd hx hb dX2_outcomeOf_41 ?_
          refine lv_istore_n (lv' := [(3, .int (nI ((o * 16) + (nmZ C p)))), (5, .int ((n9 (nmZ C p)))), (4, .int (nI p)), (0, .ref xa), (1, .long (lN C))]) hx hb dX2_outcomeOf_42 rfl hl (by decide) rfl (fun ls hl => ?_)
          refine lv_iinc (v := (nI (p + 1))) (lv' := [(4, .int (nI (p + 1))), (3, .int (nI ((o * 16) + (nmZ C p)))), (5, .int ((n9 (nmZ C p)))), (0, .ref xa), (1, .long (lN C))]) hx hb dX2_outcomeOf_43 hl (k := 2) rfl (show nI p + Int32.ofInt 1 = nI (p + 1) from nI_add _ 1) (by decide) rfl (fun ls hl => ?_)
          refine lv_goto (tgt := 5) hx hb dX2_outcomeOf_46 (by decide) ?_
          exact ih5 (p + 1) ((o * 16 + nmZ C p)) (by omega) (by rw [ho]; rfl) (by omega) ls (lv_sub hl [0, 1, 3, 4] rfl)
        · have hz0 : nmZ C p = 0 := (n9_m9 (Nat.le_trans (nmZ_le _ _) (by decide))).mp c30
          refine lv_iconst (v := nI 0) hx hb dX2_outcomeOf_33 (by decide) ?_
          refine lv_goto (tgt := 41) hx hb dX2_outcomeOf_34 (by decide) ?_
          rw [show (nI 0) = (nI (nmZ C p)) from (by rw [hz0])]
          refine n_iadd hx hb dX2_outcomeOf_41 ?_
          refine lv_istore_n (lv' := [(3, .int (nI ((o * 16) + (nmZ C p)))), (5, .int ((n9 (nmZ C p)))), (4, .int (nI p)), (0, .ref xa), (1, .long (lN C))]) hx hb dX2_outcomeOf_42 rfl hl (by decide) rfl (fun ls hl => ?_)
          refine lv_iinc (v := (nI (p + 1))) (lv' := [(4, .int (nI (p + 1))), (3, .int (nI ((o * 16) + (nmZ C p)))), (5, .int ((n9 (nmZ C p)))), (0, .ref xa), (1, .long (lN C))]) hx hb dX2_outcomeOf_43 hl (k := 2) rfl (show nI p + Int32.ofInt 1 = nI (p + 1) from nI_add _ 1) (by decide) rfl (fun ls hl => ?_)
          refine lv_goto (tgt := 5) hx hb dX2_outcomeOf_46 (by decide) ?_
          exact ih5 (p + 1) ((o * 16 + nmZ C p)) (by omega) (by rw [ho]; rfl) (by omega) ls (lv_sub hl [0, 1, 3, 4] rfl)
  exact loop5 (n + 1) 0 0 (by omega) rfl (by omega) ls (lv_sub hl [0, 1, 2, 3] rfl)

set_option maxHeartbeats 4000000 in
set_option maxRecDepth 100000 in
theorem c_X2_countFinals (l : Launch) (D : va_G) (ca : Nat → ClassId) (xa fo pa mo ta ou : Nat) (n : Nat) (B : BL) (f : Nat → Int64) (hR : ∀ i, i < B.length → f i = lN (bC B i)) (hV : ∀ i, i < B.length → bC B i < 2 ^ 54) (hB : B.length ≤ 4000) (hn : n ≤ 3) (hn1 : 1 ≤ n) : RD l D ca yX2_countFinals wsX2_countFinals 2 45 [(xa, .inr (0, [.ref fo, .ref pa, .ref mo, .ref ta, .ref ou, .int (nI B.length), .int (nI n)])), (fo, .inl (ca 1, 4000, .inr (.inl f)))] [.ref xa] (.int (nI (fiC B n B.length))) := by
  refine RD.start (cc := cX2_countFinals) (maxL := 3) (ret := (some .int)) (by decide) rfl (Nat.le_of_ble_eq_true rfl) ?_
  intro p_ e_ s_ m_ below_ meth_ c_ hx hb hml hr hlocks hown hts hP hK ls hl
  have hown : s_.vm.findClass RX2 = some m_.cls := hown
  have hl : lv_has ls 3 [(0, .ref xa)] := hl
  have hinX20 : ∀ w ∈ wsX20, w ∈ wsX2_countFinals := fun w h => List.mem_cons_of_mem _ (List.mem_append_right _ h)
  refine lv_iconst (v := nI 0) hx hb dX2_countFinals_0 (by decide) ?_
  refine lv_istore_n (lv' := [(1, .int (nI 0)), (0, .ref xa)]) hx hb dX2_countFinals_1 rfl hl (by decide) rfl (fun ls hl => ?_)
  refine lv_iconst (v := nI 0) hx hb dX2_countFinals_2 (by decide) ?_
  refine lv_istore_n (lv' := [(2, .int (nI 0)), (1, .int (nI 0)), (0, .ref xa)]) hx hb dX2_countFinals_3 rfl hl (by decide) rfl (fun ls hl => ?_)
  have loop4 : ∀ (N_ : Nat) (i : Nat) (r : Nat) (hi : i ≤ B.length) (hrr : r = fiC B n i) (hf : B.length < i + N_), ∀ (ls : Array Slot), lv_has ls 3 [(2, .int (nI i)), (1, .int (nI r)), (0, .ref xa)] → W p_ l e_ ({ frames := 2, cells := 0, slots := 0, locals := 45 }) s_ m_ ([.ref xa]).toArray below_ meth_ c_ s_.heap [] 0 0 (MQ below_ (k2_QcV (.int (nI (fiC B n B.length)))) ([.ref xa]).toArray s_ 0 0 (fun _ => False)) (F0 m_ 4 ls []) := by
    intro N_
    induction N_ with
    | zero => intro i r hi hrr hf; exfalso; omega
    | succ N_ ih4 =>
      intro i r hi hrr hf ls hl
      refine lv_iload_n hx hb dX2_countFinals_4 rfl (lv_at hl 0 rfl) ?_
      refine lv_aload_n hx hb dX2_countFinals_5 rfl (lv_at hl 2 rfl) ?_
      refine va_get (D := D) (ci := 0) (v := .int (nI B.length)) (C := RX2) (T := TX2) (N := 7) hx hb hts hinX20 hown hK.1 hP 0 rfl rfl 5 (by decide) (hts (.fieldLink RX2 34 "RenamingGrid$Exploration" "count" "I") (List.mem_of_getElem? (i := 1) rfl)) (fun _ h9 => h9) rfl dX2_countFinals_6 ?_
      refine n_ic_ge (tgt := 33) hx hb dX2_countFinals_9 (by decide) (by omega) (by omega) (fun c9 => ?_) (fun c9 => ?_)
      · refine lv_iload_n hx hb dX2_countFinals_33 rfl (lv_at hl 1 rfl) ?_
        exact rRetI hx hb hr hlocks (congrArg (fun z => Value.int (nI z)) (by rw [hrr, show i = B.length by omega])) dX2_countFinals_34
      · refine lv_aload_n hx hb dX2_countFinals_12 rfl (lv_at hl 2 rfl) ?_
        refine lv_aload_n hx hb dX2_countFinals_13 rfl (lv_at hl 2 rfl) ?_
        refine lv_iload_n hx hb dX2_countFinals_14 rfl (lv_at hl 0 rfl) ?_
        refine rdV (nL := 3) (ci := 0) (q0 := 0) (cq := (RX2, TX2, 7)) hx hb hml hown hts hK hP [.int (nI i)] [.ref xa] (c_X2_foundAt l D ca xa fo pa mo ta ou B.length n f i (by omega)) gX2_countFinals_X2_foundAt rfl ⟨rfl, qX2_foundAt⟩ ⟨Nat.le_of_ble_eq_true rfl, Nat.le_of_ble_eq_true rfl⟩ rfl rfl [0, 1] rfl rfl hl.1 (Nat.le_of_ble_eq_true rfl) ⟨Nat.le_of_ble_eq_true rfl, Nat.le_of_ble_eq_true rfl⟩ dX2_countFinals_15 ?_
        rw [show ((f i)) = (lN (bC B i)) from (hR i (by omega))]
        refine rdV (nL := 3) (ci := 0) (q0 := 0) (cq := (RX2, TX2, 7)) hx hb hml hown hts hK hP [.long (lN (bC B i))] [] (c_X2_isFinal l D ca xa fo pa mo ta ou B.length n (bC B i) (hV i (by omega)) hn) gX2_countFinals_X2_isFinal rfl ⟨rfl, qX2_isFinal⟩ ⟨Nat.le_of_ble_eq_true rfl, Nat.le_of_ble_eq_true rfl⟩ rfl rfl [0] rfl rfl hl.1 (Nat.le_of_ble_eq_true rfl) ⟨Nat.le_of_ble_eq_true rfl, Nat.le_of_ble_eq_true rfl⟩ dX2_countFinals_18 ?_
        refine n_if_eq (tgt := 27) hx hb dX2_countFinals_21 (by decide) (bN_b _) (fun c21 => ?_) (fun c21 => ?_)
        · rw [bN_0] at c21
          refine lv_iinc (v := (nI (i + 1))) (lv' := [(2, .int (nI (i + 1))), (1, .int (nI r)), (0, .ref xa)]) hx hb dX2_countFinals_27 hl (k := 0) rfl (show nI i + Int32.ofInt 1 = nI (i + 1) from nI_add _ 1) (by decide) rfl (fun ls hl => ?_)
          refine lv_goto (tgt := 4) hx hb dX2_countFinals_30 (by decide) ?_
          exact ih4 (i + 1) r (by omega) (by rw [hrr]; exact (ct_f (f := fun i => decide (finP n (bC B i))) (decide_eq_false c21)).symm) (by omega) ls (lv_sub hl [0, 1, 2] rfl)
        · rw [bN_1] at c21
          refine lv_iinc (v := (nI (r + 1))) (lv' := [(1, .int (nI (r + 1))), (2, .int (nI i)), (0, .ref xa)]) hx hb dX2_countFinals_24 hl (k := 1) rfl (show nI r + Int32.ofInt 1 = nI (r + 1) from nI_add _ 1) (by decide) rfl (fun ls hl => ?_)
          refine lv_iinc (v := (nI (i + 1))) (lv' := [(2, .int (nI (i + 1))), (1, .int (nI (r + 1))), (0, .ref xa)]) hx hb dX2_countFinals_27 hl (k := 1) rfl (show nI i + Int32.ofInt 1 = nI (i + 1) from nI_add _ 1) (by decide) rfl (fun ls hl => ?_)
          refine lv_goto (tgt := 4) hx hb dX2_countFinals_30 (by decide) ?_
          exact ih4 (i + 1) (r + 1) (by omega) (by rw [hrr]; exact (ct_t (f := fun i => decide (finP n (bC B i))) (decide_eq_true c21)).symm) (by omega) ls (lv_sub hl [0, 1, 2] rfl)
  exact loop4 (B.length + 1) 0 0 (by omega) rfl (by omega) ls (lv_sub hl [0, 1, 2] rfl)

set_option maxHeartbeats 4000000 in
set_option maxRecDepth 100000 in
theorem c_X2_countViolations (l : Launch) (D : va_G) (ca : Nat → ClassId) (xa fo pa mo ta ou : Nat) (n : Nat) (B : BL) (f : Nat → Int64) (hR : ∀ i, i < B.length → f i = lN (bC B i)) (hV : ∀ i, i < B.length → bC B i < 2 ^ 54) (hB : B.length ≤ 4000) (hn : n ≤ 3) (hn1 : 1 ≤ n) : RD l D ca yX2_countViolations wsX2_countViolations 3 69 [(xa, .inr (0, [.ref fo, .ref pa, .ref mo, .ref ta, .ref ou, .int (nI B.length), .int (nI n)])), (fo, .inl (ca 1, 4000, .inr (.inl f)))] [.ref xa] (.int (nI (viC B n B.length))) := by
  refine RD.start (cc := cX2_countViolations) (maxL := 3) (ret := (some .int)) (by decide) rfl (Nat.le_of_ble_eq_true rfl) ?_
  intro p_ e_ s_ m_ below_ meth_ c_ hx hb hml hr hlocks hown hts hP hK ls hl
  have hown : s_.vm.findClass RX2 = some m_.cls := hown
  have hl : lv_has ls 3 [(0, .ref xa)] := hl
  have hinX20 : ∀ w ∈ wsX20, w ∈ wsX2_countViolations := fun w h => List.mem_cons_of_mem _ (List.mem_append_right _ h)
  refine lv_iconst (v := nI 0) hx hb dX2_countViolations_0 (by decide) ?_
  refine lv_istore_n (lv' := [(1, .int (nI 0)), (0, .ref xa)]) hx hb dX2_countViolations_1 rfl hl (by decide) rfl (fun ls hl => ?_)
  refine lv_iconst (v := nI 0) hx hb dX2_countViolations_2 (by decide) ?_
  refine lv_istore_n (lv' := [(2, .int (nI 0)), (1, .int (nI 0)), (0, .ref xa)]) hx hb dX2_countViolations_3 rfl hl (by decide) rfl (fun ls hl => ?_)
  have loop4 : ∀ (N_ : Nat) (i : Nat) (r : Nat) (hi : i ≤ B.length) (hrr : r = viC B n i) (hf : B.length < i + N_), ∀ (ls : Array Slot), lv_has ls 3 [(2, .int (nI i)), (1, .int (nI r)), (0, .ref xa)] → W p_ l e_ ({ frames := 3, cells := 0, slots := 0, locals := 69 }) s_ m_ ([.ref xa]).toArray below_ meth_ c_ s_.heap [] 0 0 (MQ below_ (k2_QcV (.int (nI (viC B n B.length)))) ([.ref xa]).toArray s_ 0 0 (fun _ => False)) (F0 m_ 4 ls []) := by
    intro N_
    induction N_ with
    | zero => intro i r hi hrr hf; exfalso; omega
    | succ N_ ih4 =>
      intro i r hi hrr hf ls hl
      refine lv_iload_n hx hb dX2_countViolations_4 rfl (lv_at hl 0 rfl) ?_
      refine lv_aload_n hx hb dX2_countViolations_5 rfl (lv_at hl 2 rfl) ?_
      refine va_get (D := D) (ci := 0) (v := .int (nI B.length)) (C := RX2) (T := TX2) (N := 7) hx hb hts hinX20 hown hK.1 hP 0 rfl rfl 5 (by decide) (hts (.fieldLink RX2 34 "RenamingGrid$Exploration" "count" "I") (List.mem_of_getElem? (i := 1) rfl)) (fun _ h9 => h9) rfl dX2_countViolations_6 ?_
      refine n_ic_ge (tgt := 33) hx hb dX2_countViolations_9 (by decide) (by omega) (by omega) (fun c9 => ?_) (fun c9 => ?_)
      · refine lv_iload_n hx hb dX2_countViolations_33 rfl (lv_at hl 1 rfl) ?_
        exact rRetI hx hb hr hlocks (congrArg (fun z => Value.int (nI z)) (by rw [hrr, show i = B.length by omega])) dX2_countViolations_34
      · refine lv_aload_n hx hb dX2_countViolations_12 rfl (lv_at hl 2 rfl) ?_
        refine lv_aload_n hx hb dX2_countViolations_13 rfl (lv_at hl 2 rfl) ?_
        refine lv_iload_n hx hb dX2_countViolations_14 rfl (lv_at hl 0 rfl) ?_
        refine rdV (nL := 3) (ci := 0) (q0 := 0) (cq := (RX2, TX2, 7)) hx hb hml hown hts hK hP [.int (nI i)] [.ref xa] (c_X2_foundAt l D ca xa fo pa mo ta ou B.length n f i (by omega)) gX2_countViolations_X2_foundAt rfl ⟨rfl, qX2_foundAt⟩ ⟨Nat.le_of_ble_eq_true rfl, Nat.le_of_ble_eq_true rfl⟩ rfl rfl [0, 1] rfl rfl hl.1 (Nat.le_of_ble_eq_true rfl) ⟨Nat.le_of_ble_eq_true rfl, Nat.le_of_ble_eq_true rfl⟩ dX2_countViolations_15 ?_
        rw [show ((f i)) = (lN (bC B i)) from (hR i (by omega))]
        refine rdV (nL := 3) (ci := 0) (q0 := 0) (cq := (RX2, TX2, 7)) hx hb hml hown hts hK hP [.long (lN (bC B i))] [] (c_X2_isViolation l D ca xa fo pa mo ta ou B.length n (bC B i) (hV i (by omega)) hn hn1) gX2_countViolations_X2_isViolation rfl ⟨rfl, qX2_isViolation⟩ ⟨Nat.le_of_ble_eq_true rfl, Nat.le_of_ble_eq_true rfl⟩ rfl rfl [0] rfl rfl hl.1 (Nat.le_of_ble_eq_true rfl) ⟨Nat.le_of_ble_eq_true rfl, Nat.le_of_ble_eq_true rfl⟩ dX2_countViolations_18 ?_
        refine n_if_eq (tgt := 27) hx hb dX2_countViolations_21 (by decide) (bN_b _) (fun c21 => ?_) (fun c21 => ?_)
        · rw [bN_0] at c21
          refine lv_iinc (v := (nI (i + 1))) (lv' := [(2, .int (nI (i + 1))), (1, .int (nI r)), (0, .ref xa)]) hx hb dX2_countViolations_27 hl (k := 0) rfl (show nI i + Int32.ofInt 1 = nI (i + 1) from nI_add _ 1) (by decide) rfl (fun ls hl => ?_)
          refine lv_goto (tgt := 4) hx hb dX2_countViolations_30 (by decide) ?_
          exact ih4 (i + 1) r (by omega) (by rw [hrr]; exact (ct_f (f := fun i => vioB (bC B i) n) (by cases q : vioB (bC B i) n; rfl; exact absurd q c21)).symm) (by omega) ls (lv_sub hl [0, 1, 2] rfl)
        · rw [bN_1] at c21
          refine lv_iinc (v := (nI (r + 1))) (lv' := [(1, .int (nI (r + 1))), (2, .int (nI i)), (0, .ref xa)]) hx hb dX2_countViolations_24 hl (k := 1) rfl (show nI r + Int32.ofInt 1 = nI (r + 1) from nI_add _ 1) (by decide) rfl (fun ls hl => ?_)
          refine lv_iinc (v := (nI (i + 1))) (lv' := [(2, .int (nI (i + 1))), (1, .int (nI (r + 1))), (0, .ref xa)]) hx hb dX2_countViolations_27 hl (k := 1) rfl (show nI i + Int32.ofInt 1 = nI (i + 1) from nI_add _ 1) (by decide) rfl (fun ls hl => ?_)
          refine lv_goto (tgt := 4) hx hb dX2_countViolations_30 (by decide) ?_
          exact ih4 (i + 1) (r + 1) (by omega) (by rw [hrr]; exact (ct_t (f := fun i => vioB (bC B i) n) c21).symm) (by omega) ls (lv_sub hl [0, 1, 2] rfl)
  exact loop4 (B.length + 1) 0 0 (by omega) rfl (by omega) ls (lv_sub hl [0, 1, 2] rfl)

set_option maxHeartbeats 4000000 in
set_option maxRecDepth 100000 in
theorem c_X2_countFinalsNamed (l : Launch) (D : va_G) (ca : Nat → ClassId) (xa fo pa mo ta ou : Nat) (n : Nat) (B : BL) (f : Nat → Int64) (hR : ∀ i, i < B.length → f i = lN (bC B i)) (hV : ∀ i, i < B.length → bC B i < 2 ^ 54) (hB : B.length ≤ 4000) (hn : n ≤ 3) (hn1 : 1 ≤ n) (p t : Nat) (hp : p < 3) (ht : t < 16) : RD l D ca yX2_countFinalsNamed wsX2_countFinalsNamed 2 45 [(xa, .inr (0, [.ref fo, .ref pa, .ref mo, .ref ta, .ref ou, .int (nI B.length), .int (nI n)])), (fo, .inl (ca 1, 4000, .inr (.inl f)))] [.ref xa, .int (nI p), .int (nI t)] (.int (nI (fnC B n p t B.length))) := by
  refine RD.start (cc := cX2_countFinalsNamed) (maxL := 7) (ret := (some .int)) (by decide) rfl (Nat.le_of_ble_eq_true rfl) ?_
  intro p_ e_ s_ m_ below_ meth_ c_ hx hb hml hr hlocks hown hts hP hK ls hl
  have hown : s_.vm.findClass RX2 = some m_.cls := hown
  have hl : lv_has ls 7 [(0, .ref xa), (1, .int (nI p)), (2, .int (nI t))] := hl
  have hinX20 : ∀ w ∈ wsX20, w ∈ wsX2_countFinalsNamed := fun w h => List.mem_cons_of_mem _ (List.mem_append_right _ h)
  refine lv_iconst (v := nI 0) hx hb dX2_countFinalsNamed_0 (by decide) ?_
  refine lv_istore_n (lv' := [(3, .int (nI 0)), (0, .ref xa), (1, .int (nI p)), (2, .int (nI t))]) hx hb dX2_countFinalsNamed_1 rfl hl (by decide) rfl (fun ls hl => ?_)
  refine lv_iconst (v := nI 0) hx hb dX2_countFinalsNamed_2 (by decide) ?_
  refine lv_istore (lv' := [(4, .int (nI 0)), (3, .int (nI 0)), (0, .ref xa), (1, .int (nI p)), (2, .int (nI t))]) hx hb dX2_countFinalsNamed_3 hl (by decide) rfl (fun ls hl => ?_)
  have loop5 : ∀ (N_ : Nat) (i : Nat) (r : Nat) (hi : i ≤ B.length) (hrr : r = fnC B n p t i) (hf : B.length < i + N_), ∀ (ls : Array Slot), lv_has ls 7 [(4, .int (nI i)), (3, .int (nI r)), (0, .ref xa), (1, .int (nI p)), (2, .int (nI t))] → W p_ l e_ ({ frames := 2, cells := 0, slots := 0, locals := 45 }) s_ m_ ([.ref xa, .int (nI p), .int (nI t)]).toArray below_ meth_ c_ s_.heap [] 0 0 (MQ below_ (k2_QcV (.int (nI (fnC B n p t B.length)))) ([.ref xa, .int (nI p), .int (nI t)]).toArray s_ 0 0 (fun _ => False)) (F0 m_ 5 ls []) := by
    intro N_
    induction N_ with
    | zero => intro i r hi hrr hf; exfalso; omega
    | succ N_ ih5 =>
      intro i r hi hrr hf ls hl
      refine lv_iload hx hb dX2_countFinalsNamed_5 (lv_at hl 0 rfl) ?_
      refine lv_aload_n hx hb dX2_countFinalsNamed_7 rfl (lv_at hl 2 rfl) ?_
      refine va_get (D := D) (ci := 0) (v := .int (nI B.length)) (C := RX2) (T := TX2) (N := 7) hx hb hts hinX20 hown hK.1 hP 0 rfl rfl 5 (by decide) (hts (.fieldLink RX2 34 "RenamingGrid$Exploration" "count" "I") (List.mem_of_getElem? (i := 1) rfl)) (fun _ h9 => h9) rfl dX2_countFinalsNamed_8 ?_
      refine n_ic_ge (tgt := 50) hx hb dX2_countFinalsNamed_11 (by decide) (by omega) (by omega) (fun c11 => ?_) (fun c11 => ?_)
      · refine lv_iload_n hx hb dX2_countFinalsNamed_50 rfl (lv_at hl 1 rfl) ?_
        exact rRetI hx hb hr hlocks (congrArg (fun z => Value.int (nI z)) (by rw [hrr, show i = B.length by omega])) dX2_countFinalsNamed_51
      · refine lv_aload_n hx hb dX2_countFinalsNamed_14 rfl (lv_at hl 2 rfl) ?_
        refine lv_iload hx hb dX2_countFinalsNamed_15 (lv_at hl 0 rfl) ?_
        refine rdV (nL := 7) (ci := 0) (q0 := 0) (cq := (RX2, TX2, 7)) hx hb hml hown hts hK hP [.int (nI i)] [] (c_X2_foundAt l D ca xa fo pa mo ta ou B.length n f i (by omega)) gX2_countFinalsNamed_X2_foundAt rfl ⟨rfl, qX2_foundAt⟩ ⟨Nat.le_of_ble_eq_true rfl, Nat.le_of_ble_eq_true rfl⟩ rfl rfl [0, 1] rfl rfl hl.1 (Nat.le_of_ble_eq_true rfl) ⟨Nat.le_of_ble_eq_true rfl, Nat.le_of_ble_eq_true rfl⟩ dX2_countFinalsNamed_17 ?_
        rw [show ((f i)) = (lN (bC B i)) from (hR i (by omega))]
        refine lv_lstore (lv' := [(5, .long (lN (bC B i))), (4, .int (nI i)), (3, .int (nI r)), (0, .ref xa), (1, .int (nI p)), (2, .int (nI t))]) hx hb dX2_countFinalsNamed_20 hl (by decide) rfl (fun ls hl => ?_)
        refine lv_aload_n hx hb dX2_countFinalsNamed_22 rfl (lv_at hl 3 rfl) ?_
        refine lv_lload hx hb dX2_countFinalsNamed_23 (lv_at hl 0 rfl) ?_
        refine rdV (nL := 7) (ci := 0) (q0 := 0) (cq := (RX2, TX2, 7)) hx hb hml hown hts hK hP [.long (lN (bC B i))] [] (c_X2_isFinal l D ca xa fo pa mo ta ou B.length n (bC B i) (hV i (by omega)) hn) gX2_countFinalsNamed_X2_isFinal rfl ⟨rfl, qX2_isFinal⟩ ⟨Nat.le_of_ble_eq_true rfl, Nat.le_of_ble_eq_true rfl⟩ rfl rfl [0] rfl rfl hl.1 (Nat.le_of_ble_eq_true rfl) ⟨Nat.le_of_ble_eq_true rfl, Nat.le_of_ble_eq_true rfl⟩ dX2_countFinalsNamed_25 ?_
        refine n_if_eq (tgt := 44) hx hb dX2_countFinalsNamed_28 (by decide) (bN_b _) (fun c28 => ?_) (fun c28 => ?_)
        · rw [bN_0] at c28
          refine lv_iinc (v := (nI (i + 1))) (lv' := [(4, .int (nI (i + 1))), (5, .long (lN (bC B i))), (3, .int (nI r)), (0, .ref xa), (1, .int (nI p)), (2, .int (nI t))]) hx hb dX2_countFinalsNamed_44 hl (k := 1) rfl (show nI i + Int32.ofInt 1 = nI (i + 1) from nI_add _ 1) (by decide) rfl (fun ls hl => ?_)
          refine lv_goto (tgt := 5) hx hb dX2_countFinalsNamed_47 (by decide) ?_
          exact ih5 (i + 1) r (by omega) (by rw [hrr]; exact (ct_f (f := fun i => decide (finP n (bC B i)) && decide (nmZ (bC B i) p = t + 1)) (by rw [decide_eq_false c28]; rfl)).symm) (by omega) ls (lv_sub hl [0, 2, 3, 4, 5] rfl)
        · rw [bN_1] at c28
          refine lv_lload hx hb dX2_countFinalsNamed_31 (lv_at hl 0 rfl) ?_
          refine lv_iload_n hx hb dX2_countFinalsNamed_33 rfl (lv_at hl 4 rfl) ?_
          refine rdS (nL := 7) hx hb hml hown hts hK hP [.long (lN (bC B i)), .int (nI p)] [] (c_X0_nameIn l D ca (bC B i) p (hV i (by omega)) hp) gX2_countFinalsNamed_X0_nameIn rfl qX0_nameIn ⟨Nat.le_of_ble_eq_true rfl, Nat.le_of_ble_eq_true rfl⟩ [] rfl rfl hl.1 (Nat.le_of_ble_eq_true rfl) ⟨Nat.le_of_ble_eq_true rfl, Nat.le_of_ble_eq_true rfl⟩ dX2_countFinalsNamed_34 ?_
          rw [show ((nmC (bC B i) p)) = ((n9 (nmZ (bC B i) p))) from nmC_z _ _]
          refine lv_iload_n hx hb dX2_countFinalsNamed_37 rfl (lv_at hl 5 rfl) ?_
          refine lv_icmp_ne (tgt := 44) hx hb dX2_countFinalsNamed_38 (by decide) (fun c38 => ?_) (fun c38 => ?_)
          · refine lv_iinc (v := (nI (i + 1))) (lv' := [(4, .int (nI (i + 1))), (5, .long (lN (bC B i))), (3, .int (nI r)), (0, .ref xa), (1, .int (nI p)), (2, .int (nI t))]) hx hb dX2_countFinalsNamed_44 hl (k := 1) rfl (show nI i + Int32.ofInt 1 = nI (i + 1) from nI_add _ 1) (by decide) rfl (fun ls hl => ?_)
            refine lv_goto (tgt := 5) hx hb dX2_countFinalsNamed_47 (by decide) ?_
            exact ih5 (i + 1) r (by omega) (by rw [hrr]; exact (ct_f (f := fun i => decide (finP n (bC B i)) && decide (nmZ (bC B i) p = t + 1)) (by rw [decide_eq_true c28, decide_eq_false (fun z => c38 ((n9_nI (Nat.le_trans (nmZ_le _ _) (by decide)) (by omega)).mpr z))]; rfl)).symm) (by omega) ls (lv_sub hl [0, 2, 3, 4, 5] rfl)
          · refine lv_iinc (v := (nI (r + 1))) (lv' := [(3, .int (nI (r + 1))), (5, .long (lN (bC B i))), (4, .int (nI i)), (0, .ref xa), (1, .int (nI p)), (2, .int (nI t))]) hx hb dX2_countFinalsNamed_41 hl (k := 2) rfl (show nI r + Int32.ofInt 1 = nI (r + 1) from nI_add _ 1) (by decide) rfl (fun ls hl => ?_)
            refine lv_iinc (v := (nI (i + 1))) (lv' := [(4, .int (nI (i + 1))), (3, .int (nI (r + 1))), (5, .long (lN (bC B i))), (0, .ref xa), (1, .int (nI p)), (2, .int (nI t))]) hx hb dX2_countFinalsNamed_44 hl (k := 2) rfl (show nI i + Int32.ofInt 1 = nI (i + 1) from nI_add _ 1) (by decide) rfl (fun ls hl => ?_)
            refine lv_goto (tgt := 5) hx hb dX2_countFinalsNamed_47 (by decide) ?_
            exact ih5 (i + 1) (r + 1) (by omega) (by rw [hrr]; exact (ct_t (f := fun i => decide (finP n (bC B i)) && decide (nmZ (bC B i) p = t + 1)) (by rw [decide_eq_true c28, decide_eq_true ((n9_nI (Nat.le_trans (nmZ_le _ _) (by decide)) (by omega)).mp c38)]; rfl)).symm) (by omega) ls (lv_sub hl [0, 1, 3, 4, 5] rfl)
  exact loop5 (B.length + 1) 0 0 (by omega) rfl (by omega) ls (lv_sub hl [0, 1, 2, 3, 4] rfl)

set_option maxHeartbeats 4000000 in
set_option maxRecDepth 100000 in
theorem c_X2_highestName (l : Launch) (D : va_G) (ca : Nat → ClassId) (xa fo pa mo ta ou : Nat) (n : Nat) (B : BL) (f : Nat → Int64) (hR : ∀ i, i < B.length → f i = lN (bC B i)) (hV : ∀ i, i < B.length → bC B i < 2 ^ 54) (hB : B.length ≤ 4000) (hn : n ≤ 3) (hn1 : 1 ≤ n) : RD l D ca yX2_highestName wsX2_highestName 2 44 [(xa, .inr (0, [.ref fo, .ref pa, .ref mo, .ref ta, .ref ou, .int (nI B.length), .int (nI n)])), (fo, .inl (ca 1, 4000, .inr (.inl f)))] [.ref xa] (.int ((n9 (hiB B n B.length)))) := by
  refine RD.start (cc := cX2_highestName) (maxL := 4) (ret := (some .int)) (by decide) rfl (Nat.le_of_ble_eq_true rfl) ?_
  intro p_ e_ s_ m_ below_ meth_ c_ hx hb hml hr hlocks hown hts hP hK ls hl
  have hown : s_.vm.findClass RX2 = some m_.cls := hown
  have hl : lv_has ls 4 [(0, .ref xa)] := hl
  have hinX20 : ∀ w ∈ wsX20, w ∈ wsX2_highestName := fun w h => List.mem_cons_of_mem _ (List.mem_append_right _ h)
  refine lv_bipush (v := -9) hx hb dX2_highestName_0 (by decide) ?_
  refine lv_istore_n (lv' := [(1, .int ((-9))), (0, .ref xa)]) hx hb dX2_highestName_2 rfl hl (by decide) rfl (fun ls hl => ?_)
  refine lv_iconst (v := nI 0) hx hb dX2_highestName_3 (by decide) ?_
  refine lv_istore_n (lv' := [(2, .int (nI 0)), (1, .int ((-9))), (0, .ref xa)]) hx hb dX2_highestName_4 rfl hl (by decide) rfl (fun ls hl => ?_)
  have loopA : ∀ (N_ : Nat) (i : Nat) (x : Nat) (hi : i ≤ B.length) (hxx : x = hiB B n i) (hf : B.length < i + N_), ∀ (ls : Array Slot), lv_has ls 4 [(2, .int (nI i)), (1, .int ((n9 x))), (0, .ref xa)] → W p_ l e_ ({ frames := 2, cells := 0, slots := 0, locals := 44 }) s_ m_ ([.ref xa]).toArray below_ meth_ c_ s_.heap [] 0 0 (MQ below_ (k2_QcV (.int ((n9 (hiB B n B.length))))) ([.ref xa]).toArray s_ 0 0 (fun _ => False)) (F0 m_ 5 ls []) := by
    intro N_
    induction N_ with
    | zero => intro i x hi hxx hf; exfalso; omega
    | succ N_ ih5 =>
      intro i x hi hxx hf ls hl
      refine lv_iload_n hx hb dX2_highestName_5 rfl (lv_at hl 0 rfl) ?_
      refine lv_aload_n hx hb dX2_highestName_6 rfl (lv_at hl 2 rfl) ?_
      refine va_get (D := D) (ci := 0) (v := .int (nI B.length)) (C := RX2) (T := TX2) (N := 7) hx hb hts hinX20 hown hK.1 hP 0 rfl rfl 5 (by decide) (hts (.fieldLink RX2 34 "RenamingGrid$Exploration" "count" "I") (List.mem_of_getElem? (i := 1) rfl)) (fun _ h9 => h9) rfl dX2_highestName_7 ?_
      refine n_ic_ge (tgt := 49) hx hb dX2_highestName_10 (by decide) (by omega) (by omega) (fun c10 => ?_) (fun c10 => ?_)
      · refine lv_iload_n hx hb dX2_highestName_49 rfl (lv_at hl 1 rfl) ?_
        exact rRetI hx hb hr hlocks (congrArg Value.int (by rw [hxx, show i = B.length by omega])) dX2_highestName_50
      · refine lv_iconst (v := nI 0) hx hb dX2_highestName_13 (by decide) ?_
        refine lv_istore_n (lv' := [(3, .int (nI 0)), (2, .int (nI i)), (1, .int ((n9 x))), (0, .ref xa)]) hx hb dX2_highestName_14 rfl hl (by decide) rfl (fun ls hl => ?_)
        have loopB : ∀ (N_ : Nat) (p : Nat) (x : Nat) (hp : p ≤ n) (hxp : x = max (hiB B n i) (hiP (bC B i) p)) (hfp : n < p + N_), ∀ (ls : Array Slot), lv_has ls 4 [(3, .int (nI p)), (2, .int (nI i)), (1, .int ((n9 x))), (0, .ref xa)] → W p_ l e_ ({ frames := 2, cells := 0, slots := 0, locals := 44 }) s_ m_ ([.ref xa]).toArray below_ meth_ c_ s_.heap [] 0 0 (MQ below_ (k2_QcV (.int ((n9 (hiB B n B.length))))) ([.ref xa]).toArray s_ 0 0 (fun _ => False)) (F0 m_ 15 ls []) := by
          intro N_
          induction N_ with
          | zero => intro p x hp hxp hfp; exfalso; omega
          | succ N_ ih15 =>
            intro p x hp hxp hfp ls hl
            refine lv_iload_n hx hb dX2_highestName_15 rfl (lv_at hl 0 rfl) ?_
            refine lv_aload_n hx hb dX2_highestName_16 rfl (lv_at hl 3 rfl) ?_
            refine va_get (D := D) (ci := 0) (v := .int (nI n)) (C := RX2) (T := TX2) (N := 7) hx hb hts hinX20 hown hK.1 hP 0 rfl rfl 6 (by decide) (hts (.fieldLink RX2 43 "RenamingGrid$Exploration" "processes" "I") (List.mem_of_getElem? (i := 2) rfl)) (fun _ h9 => h9) rfl dX2_highestName_17 ?_
            refine n_ic_ge (tgt := 43) hx hb dX2_highestName_20 (by decide) (by omega) (by omega) (fun c20 => ?_) (fun c20 => ?_)
            · refine lv_iinc (v := (nI (i + 1))) (lv' := [(2, .int (nI (i + 1))), (3, .int (nI p)), (1, .int ((n9 x))), (0, .ref xa)]) hx hb dX2_highestName_43 hl (k := 1) rfl (show nI i + Int32.ofInt 1 = nI (i + 1) from nI_add _ 1) (by decide) rfl (fun ls hl => ?_)
              refine lv_goto (tgt := 5) hx hb dX2_highestName_46 (by decide) ?_
              exact ih5 (i + 1) x (by omega) (by rw [hxp, show p = n by omega]; rfl) (by omega) ls (lv_sub hl [0, 2, 3] rfl)
            · have hx16 : x ≤ 16 := by rw [hxp]; exact Nat.max_le.mpr ⟨hiB_le _ _ _, hiP_le _ _⟩
              refine lv_iload_n hx hb dX2_highestName_23 rfl (lv_at hl 2 rfl) ?_
              refine lv_aload_n hx hb dX2_highestName_24 rfl (lv_at hl 3 rfl) ?_
              refine lv_iload_n hx hb dX2_highestName_25 rfl (lv_at hl 1 rfl) ?_
              refine rdV (nL := 4) (ci := 0) (q0 := 0) (cq := (RX2, TX2, 7)) hx hb hml hown hts hK hP [.int (nI i)] [.int ((n9 x))] (c_X2_foundAt l D ca xa fo pa mo ta ou B.length n f i (by omega)) gX2_highestName_X2_foundAt rfl ⟨rfl, qX2_foundAt⟩ ⟨Nat.le_of_ble_eq_true rfl, Nat.le_of_ble_eq_true rfl⟩ rfl rfl [0, 1] rfl rfl hl.1 (Nat.le_of_ble_eq_true rfl) ⟨Nat.le_of_ble_eq_true rfl, Nat.le_of_ble_eq_true rfl⟩ dX2_highestName_26 ?_
              rw [show ((f i)) = (lN (bC B i)) from (hR i (by omega))]
              refine lv_iload_n hx hb dX2_highestName_29 rfl (lv_at hl 0 rfl) ?_
              refine rdS (nL := 4) hx hb hml hown hts hK hP [.long (lN (bC B i)), .int (nI p)] [.int ((n9 x))] (c_X0_nameIn l D ca (bC B i) p (hV i (by omega)) (by omega)) gX2_highestName_X0_nameIn rfl qX0_nameIn ⟨Nat.le_of_ble_eq_true rfl, Nat.le_of_ble_eq_true rfl⟩ [] rfl rfl hl.1 (Nat.le_of_ble_eq_true rfl) ⟨Nat.le_of_ble_eq_true rfl, Nat.le_of_ble_eq_true rfl⟩ dX2_highestName_30 ?_
              rw [show ((nmC (bC B i) p)) = ((n9 (nmZ (bC B i) p))) from nmC_z _ _]
              refine va_mmax hx hb (by rw [hml]; exact hl.1.symm) hown (hts (.methodLink RX2 107 Lib.Math.max.name) (List.mem_of_getElem? (i := 3) rfl)) (hts (.static Lib.Math.max.name) (List.mem_of_getElem? (i := 4) rfl)) (hts (.initialized "java/lang/Math") (List.mem_of_getElem? (i := 5) rfl)) (hts (.code Lib.Math.max.name Lib.Math.max.code 2 (some .int)) (List.mem_of_getElem? (i := 6) rfl)) (Nat.le_of_ble_eq_true rfl) (Nat.le_of_ble_eq_true rfl) (Nat.le_refl 0) (Nat.le_refl 0) dX2_highestName_33 ?_
              rw [show ((if ((n9 x)) < ((n9 (nmZ (bC B i) p))) then ((n9 (nmZ (bC B i) p))) else ((n9 x)))) = ((n9 (max x (nmZ (bC B i) p)))) from n9_max (Nat.le_trans hx16 (by decide)) (Nat.le_trans (nmZ_le _ _) (by decide))]
              refine lv_istore_n (lv' := [(1, .int ((n9 (max x (nmZ (bC B i) p))))), (3, .int (nI p)), (2, .int (nI i)), (0, .ref xa)]) hx hb dX2_highestName_36 rfl hl (by decide) rfl (fun ls hl => ?_)
              refine lv_iinc (v := (nI (p + 1))) (lv' := [(3, .int (nI (p + 1))), (1, .int ((n9 (max x (nmZ (bC B i) p))))), (2, .int (nI i)), (0, .ref xa)]) hx hb dX2_highestName_37 hl (k := 1) rfl (show nI p + Int32.ofInt 1 = nI (p + 1) from nI_add _ 1) (by decide) rfl (fun ls hl => ?_)
              refine lv_goto (tgt := 15) hx hb dX2_highestName_40 (by decide) ?_
              exact ih15 (p + 1) ((max x (nmZ (bC B i) p))) (by omega) (by rw [hxp, Nat.max_assoc]; rfl) (by omega) ls (lv_sub hl [0, 2, 1, 3] rfl)
        exact loopB (n + 1) 0 x (by omega) (by rw [hxx]; exact (Nat.max_eq_left (Nat.zero_le _)).symm) (by omega) ls (lv_sub hl [0, 1, 2, 3] rfl)
  exact loopA (B.length + 1) 0 0 (by omega) rfl (by omega) ls (lv_sub hl [0, 1, 2] rfl)

set_option maxHeartbeats 4000000 in
set_option maxRecDepth 100000 in
theorem c_X2_parentOf (l : Launch) (D : va_G) (ca : Nat → ClassId) (xa fo pa mo ta ou : Nat) (cnt n : Nat) (p : Nat → Int32) (i : Nat) (hi : i < 4000) : RD l D ca yX2_parentOf wsX2_parentOf 0 0 [(xa, .inr (0, [.ref fo, .ref pa, .ref mo, .ref ta, .ref ou, .int (nI cnt), .int (nI n)])), (pa, .inl (ca 0, 4000, .inl p))] [.ref xa, .int (nI i)] (.int ((p i))) := by
  refine RD.start (cc := cX2_parentOf) (maxL := 2) (ret := (some .int)) (by decide) rfl (Nat.le_of_ble_eq_true rfl) ?_
  intro p_ e_ s_ m_ below_ meth_ c_ hx hb hml hr hlocks hown hts hP hK ls hl
  have hown : s_.vm.findClass RX2 = some m_.cls := hown
  have hl : lv_has ls 2 [(0, .ref xa), (1, .int (nI i))] := hl
  have hinX20 : ∀ w ∈ wsX20, w ∈ wsX2_parentOf := fun w h => List.mem_cons_of_mem _ (List.mem_append_right _ h)
  refine lv_iload_n hx hb dX2_parentOf_0 rfl (lv_at hl 1 rfl) ?_
  refine n_if_lt (tgt := 22) hx hb dX2_parentOf_1 (by decide) (by omega) ?_
  refine lv_iload_n hx hb dX2_parentOf_4 rfl (lv_at hl 1 rfl) ?_
  refine lv_aload_n hx hb dX2_parentOf_5 rfl (lv_at hl 0 rfl) ?_
  refine va_get (D := D) (ci := 0) (v := .ref pa) (C := RX2) (T := TX2) (N := 7) hx hb hts hinX20 hown hK.1 hP 0 rfl rfl 1 (by decide) (hts (.fieldLink RX2 15 "RenamingGrid$Exploration" "parents" "[I") (List.mem_of_getElem? (i := 1) rfl)) (fun _ h9 => h9) rfl dX2_parentOf_6 ?_
  refine va_alen (D := D) (v := nI 4000) hx hb hK.1 hP 1 0 rfl rfl rfl dX2_parentOf_9 ?_
  refine n_ic_ge (tgt := 22) hx hb dX2_parentOf_10 (by decide) (by omega) (by decide) (fun c10 => absurd c10 (by omega)) (fun c10 => ?_)
  refine lv_aload_n hx hb dX2_parentOf_13 rfl (lv_at hl 0 rfl) ?_
  refine va_get (D := D) (ci := 0) (v := .ref pa) (C := RX2) (T := TX2) (N := 7) hx hb hts hinX20 hown hK.1 hP 0 rfl rfl 1 (by decide) (hts (.fieldLink RX2 15 "RenamingGrid$Exploration" "parents" "[I") (List.mem_of_getElem? (i := 1) rfl)) (fun _ h9 => h9) rfl dX2_parentOf_14 ?_
  refine lv_iload_n hx hb dX2_parentOf_17 rfl (lv_at hl 1 rfl) ?_
  refine n_iald (D := D) (ca := ca) (v := (p i)) hx hb hK.1 hP 1 (f := p) rfl (by omega) (by decide) rfl dX2_parentOf_18 ?_
  refine lv_goto (tgt := 23) hx hb dX2_parentOf_19 (by decide) ?_
  exact rRetI hx hb hr hlocks rfl dX2_parentOf_23

set_option maxHeartbeats 4000000 in
set_option maxRecDepth 100000 in
theorem c_X2_depthOf (l : Launch) (D : va_G) (ca : Nat → ClassId) (xa fo pa mo ta ou : Nat) (n : Nat) (B : BL) (p : Nat → Int32) (hP1 : ∀ i, i < B.length → p i = nI (bP B i)) (hB : B.length ≤ 4000) (hW : WFB B) (v : Nat) (hv : v < B.length) : RD l D ca yX2_depthOf wsX2_depthOf 1 21 [(xa, .inr (0, [.ref fo, .ref pa, .ref mo, .ref ta, .ref ou, .int (nI B.length), .int (nI n)])), (pa, .inl (ca 0, 4000, .inl p))] [.ref xa, .int (nI v)] (.int (nI (dep B v))) := by
  refine RD.start (cc := cX2_depthOf) (maxL := 4) (ret := (some .int)) (by decide) rfl (Nat.le_of_ble_eq_true rfl) ?_
  intro p_ e_ s_ m_ below_ meth_ c_ hx hb hml hr hlocks hown hts hP hK ls hl
  have hown : s_.vm.findClass RX2 = some m_.cls := hown
  have hl : lv_has ls 4 [(0, .ref xa), (1, .int (nI v))] := hl
  have hinX20 : ∀ w ∈ wsX20, w ∈ wsX2_depthOf := fun w h => List.mem_cons_of_mem _ (List.mem_append_right _ h)
  refine lv_iload_n hx hb dX2_depthOf_0 rfl (lv_at hl 1 rfl) ?_
  refine lv_istore_n (lv' := [(2, .int (nI v)), (0, .ref xa), (1, .int (nI v))]) hx hb dX2_depthOf_1 rfl hl (by decide) rfl (fun ls hl => ?_)
  refine lv_iconst (v := nI 0) hx hb dX2_depthOf_2 (by decide) ?_
  refine lv_istore_n (lv' := [(3, .int (nI 0)), (2, .int (nI v)), (0, .ref xa), (1, .int (nI v))]) hx hb dX2_depthOf_3 rfl hl (by decide) rfl (fun ls hl => ?_)
  have loop4 : ∀ (N_ : Nat) (a : Nat) (k : Nat) (ha : a + k ≤ v) (hk : dep B a + k = dep B v) (hf : a < N_), ∀ (ls : Array Slot), lv_has ls 4 [(2, .int (nI a)), (3, .int (nI k)), (0, .ref xa), (1, .int (nI v))] → W p_ l e_ ({ frames := 1, cells := 0, slots := 0, locals := 21 }) s_ m_ ([.ref xa, .int (nI v)]).toArray below_ meth_ c_ s_.heap [] 0 0 (MQ below_ (k2_QcV (.int (nI (dep B v)))) ([.ref xa, .int (nI v)]).toArray s_ 0 0 (fun _ => False)) (F0 m_ 4 ls []) := by
    intro N_
    induction N_ with
    | zero => intro a k ha hk hf; exfalso; omega
    | succ N_ ih4 =>
      intro a k ha hk hf ls hl
      refine lv_iload_n hx hb dX2_depthOf_4 rfl (lv_at hl 0 rfl) ?_
      refine n_if_le (tgt := 27) hx hb dX2_depthOf_5 (by decide) (by omega) (fun c5 => ?_) (fun c5 => ?_)
      · refine lv_iload_n hx hb dX2_depthOf_27 rfl (lv_at hl 1 rfl) ?_
        exact rRetI hx hb hr hlocks (congrArg (fun z => Value.int (nI z)) (by rw [← hk, show a = 0 by omega, dep_0]; omega)) dX2_depthOf_28
      · refine lv_iload_n hx hb dX2_depthOf_8 rfl (lv_at hl 1 rfl) ?_
        refine lv_sipush (v := nI 4000) hx hb dX2_depthOf_9 (by decide) ?_
        refine n_ic_ge (tgt := 27) hx hb dX2_depthOf_12 (by decide) (by omega) (by decide) (fun c12 => absurd c12 (by omega)) (fun c12 => ?_)
        refine lv_aload_n hx hb dX2_depthOf_15 rfl (lv_at hl 2 rfl) ?_
        refine lv_iload_n hx hb dX2_depthOf_16 rfl (lv_at hl 0 rfl) ?_
        refine rdV (nL := 4) (ci := 0) (q0 := 0) (cq := (RX2, TX2, 7)) hx hb hml hown hts hK hP [.int (nI a)] [] (c_X2_parentOf l D ca xa fo pa mo ta ou B.length n p a (by omega)) gX2_depthOf_X2_parentOf rfl ⟨rfl, qX2_parentOf⟩ ⟨Nat.le_of_ble_eq_true rfl, Nat.le_of_ble_eq_true rfl⟩ rfl rfl [0, 1] rfl rfl hl.1 (Nat.le_of_ble_eq_true rfl) ⟨Nat.le_of_ble_eq_true rfl, Nat.le_of_ble_eq_true rfl⟩ dX2_depthOf_17 ?_
        rw [show ((p a)) = (nI (bP B a)) from (hP1 a (by omega))]
        refine lv_istore_n (lv' := [(2, .int (nI (bP B a))), (3, .int (nI k)), (0, .ref xa), (1, .int (nI v))]) hx hb dX2_depthOf_20 rfl hl (by decide) rfl (fun ls hl => ?_)
        refine lv_iinc (v := (nI (k + 1))) (lv' := [(3, .int (nI (k + 1))), (2, .int (nI (bP B a))), (0, .ref xa), (1, .int (nI v))]) hx hb dX2_depthOf_21 hl (k := 1) rfl (show nI k + Int32.ofInt 1 = nI (k + 1) from nI_add _ 1) (by decide) rfl (fun ls hl => ?_)
        refine lv_goto (tgt := 4) hx hb dX2_depthOf_24 (by decide) ?_
        exact ih4 ((bP B a)) (k + 1) (by have := hW a c5 (by omega); omega) (by have := dep_s hW c5 (show a < B.length by omega); omega) (by have := hW a c5 (by omega); omega) ls (lv_sub hl [1, 0, 2, 3] rfl)
  exact loop4 (v + 1) v 0 (by omega) (by omega) (by omega) ls (lv_sub hl [1, 0, 2, 3] rfl)

set_option maxHeartbeats 4000000 in
set_option maxRecDepth 100000 in
theorem c_X2_depthOf_n (l : Launch) (D : va_G) (ca : Nat → ClassId) (xa fo pa mo ta ou : Nat) (cnt n : Nat) (p : Nat → Int32) : RD l D ca yX2_depthOf wsX2_depthOf 0 0 [(xa, .inr (0, [.ref fo, .ref pa, .ref mo, .ref ta, .ref ou, .int (nI cnt), .int (nI n)])), (pa, .inl (ca 0, 4000, .inl p))] [.ref xa, .int ((-9))] (.int (nI 0)) := by
  refine RD.start (cc := cX2_depthOf) (maxL := 4) (ret := (some .int)) (by decide) rfl (Nat.le_of_ble_eq_true rfl) ?_
  intro p_ e_ s_ m_ below_ meth_ c_ hx hb hml hr hlocks hown hts hP hK ls hl
  have hown : s_.vm.findClass RX2 = some m_.cls := hown
  have hl : lv_has ls 4 [(0, .ref xa), (1, .int ((-9)))] := hl
  have hinX20 : ∀ w ∈ wsX20, w ∈ wsX2_depthOf := fun w h => List.mem_cons_of_mem _ (List.mem_append_right _ h)
  refine lv_iload_n hx hb dX2_depthOf_0 rfl (lv_at hl 1 rfl) ?_
  refine lv_istore_n (lv' := [(2, .int ((-9))), (0, .ref xa), (1, .int ((-9)))]) hx hb dX2_depthOf_1 rfl hl (by decide) rfl (fun ls hl => ?_)
  refine lv_iconst (v := nI 0) hx hb dX2_depthOf_2 (by decide) ?_
  refine lv_istore_n (lv' := [(3, .int (nI 0)), (2, .int ((-9))), (0, .ref xa), (1, .int ((-9)))]) hx hb dX2_depthOf_3 rfl hl (by decide) rfl (fun ls hl => ?_)
  refine lv_iload_n hx hb dX2_depthOf_4 rfl (lv_at hl 1 rfl) ?_
  refine lv_if_le (tgt := 27) hx hb dX2_depthOf_5 (by decide) (fun c5 => ?_) (fun c5 => absurd c5 (by decide))
  refine lv_iload_n hx hb dX2_depthOf_27 rfl (lv_at hl 0 rfl) ?_
  exact rRetI hx hb hr hlocks rfl dX2_depthOf_28

set_option maxHeartbeats 4000000 in
set_option maxRecDepth 100000 in
theorem c_X2_firstViolation (l : Launch) (D : va_G) (ca : Nat → ClassId) (xa fo pa mo ta ou : Nat) (n : Nat) (B : BL) (f : Nat → Int64) (hR : ∀ i, i < B.length → f i = lN (bC B i)) (hV : ∀ i, i < B.length → bC B i < 2 ^ 54) (hB : B.length ≤ 4000) (hn : n ≤ 3) (hn1 : 1 ≤ n) (v : Nat) (hv : v < B.length) (hv1 : vioB (bC B v) n = true) (hv0 : ∀ i, i < v → vioB (bC B i) n = false) : RD l D ca yX2_firstViolation wsX2_firstViolation 3 69 [(xa, .inr (0, [.ref fo, .ref pa, .ref mo, .ref ta, .ref ou, .int (nI B.length), .int (nI n)])), (fo, .inl (ca 1, 4000, .inr (.inl f)))] [.ref xa] (.int (nI v)) := by
  refine RD.start (cc := cX2_firstViolation) (maxL := 2) (ret := (some .int)) (by decide) rfl (Nat.le_of_ble_eq_true rfl) ?_
  intro p_ e_ s_ m_ below_ meth_ c_ hx hb hml hr hlocks hown hts hP hK ls hl
  have hown : s_.vm.findClass RX2 = some m_.cls := hown
  have hl : lv_has ls 2 [(0, .ref xa)] := hl
  have hinX20 : ∀ w ∈ wsX20, w ∈ wsX2_firstViolation := fun w h => List.mem_cons_of_mem _ (List.mem_append_right _ h)
  refine lv_iconst (v := nI 0) hx hb dX2_firstViolation_0 (by decide) ?_
  refine lv_istore_n (lv' := [(1, .int (nI 0)), (0, .ref xa)]) hx hb dX2_firstViolation_1 rfl hl (by decide) rfl (fun ls hl => ?_)
  have loop2 : ∀ (N_ : Nat) (i : Nat) (hi : i ≤ v) (hf : v < i + N_), ∀ (ls : Array Slot), lv_has ls 2 [(1, .int (nI i)), (0, .ref xa)] → W p_ l e_ ({ frames := 3, cells := 0, slots := 0, locals := 69 }) s_ m_ ([.ref xa]).toArray below_ meth_ c_ s_.heap [] 0 0 (MQ below_ (k2_QcV (.int (nI v))) ([.ref xa]).toArray s_ 0 0 (fun _ => False)) (F0 m_ 2 ls []) := by
    intro N_
    induction N_ with
    | zero => intro i hi hf; exfalso; omega
    | succ N_ ih2 =>
      intro i hi hf ls hl
      refine lv_iload_n hx hb dX2_firstViolation_2 rfl (lv_at hl 0 rfl) ?_
      refine lv_aload_n hx hb dX2_firstViolation_3 rfl (lv_at hl 1 rfl) ?_
      refine va_get (D := D) (ci := 0) (v := .int (nI B.length)) (C := RX2) (T := TX2) (N := 7) hx hb hts hinX20 hown hK.1 hP 0 rfl rfl 5 (by decide) (hts (.fieldLink RX2 34 "RenamingGrid$Exploration" "count" "I") (List.mem_of_getElem? (i := 1) rfl)) (fun _ h9 => h9) rfl dX2_firstViolation_4 ?_
      refine n_ic_ge (tgt := 30) hx hb dX2_firstViolation_7 (by decide) (by omega) (by omega) (fun c7 => absurd c7 (by omega)) (fun c7 => ?_)
      refine lv_aload_n hx hb dX2_firstViolation_10 rfl (lv_at hl 1 rfl) ?_
      refine lv_aload_n hx hb dX2_firstViolation_11 rfl (lv_at hl 1 rfl) ?_
      refine lv_iload_n hx hb dX2_firstViolation_12 rfl (lv_at hl 0 rfl) ?_
      refine rdV (nL := 2) (ci := 0) (q0 := 0) (cq := (RX2, TX2, 7)) hx hb hml hown hts hK hP [.int (nI i)] [.ref xa] (c_X2_foundAt l D ca xa fo pa mo ta ou B.length n f i (by omega)) gX2_firstViolation_X2_foundAt rfl ⟨rfl, qX2_foundAt⟩ ⟨Nat.le_of_ble_eq_true rfl, Nat.le_of_ble_eq_true rfl⟩ rfl rfl [0, 1] rfl rfl hl.1 (Nat.le_of_ble_eq_true rfl) ⟨Nat.le_of_ble_eq_true rfl, Nat.le_of_ble_eq_true rfl⟩ dX2_firstViolation_13 ?_
      rw [show ((f i)) = (lN (bC B i)) from (hR i (by omega))]
      refine rdV (nL := 2) (ci := 0) (q0 := 0) (cq := (RX2, TX2, 7)) hx hb hml hown hts hK hP [.long (lN (bC B i))] [] (c_X2_isViolation l D ca xa fo pa mo ta ou B.length n (bC B i) (hV i (by omega)) hn hn1) gX2_firstViolation_X2_isViolation rfl ⟨rfl, qX2_isViolation⟩ ⟨Nat.le_of_ble_eq_true rfl, Nat.le_of_ble_eq_true rfl⟩ rfl rfl [0] rfl rfl hl.1 (Nat.le_of_ble_eq_true rfl) ⟨Nat.le_of_ble_eq_true rfl, Nat.le_of_ble_eq_true rfl⟩ dX2_firstViolation_16 ?_
      refine n_if_eq (tgt := 24) hx hb dX2_firstViolation_19 (by decide) (bN_b _) (fun c19 => ?_) (fun c19 => ?_)
      · rw [bN_0] at c19
        refine lv_iinc (v := (nI (i + 1))) (lv' := [(1, .int (nI (i + 1))), (0, .ref xa)]) hx hb dX2_firstViolation_24 hl (k := 0) rfl (show nI i + Int32.ofInt 1 = nI (i + 1) from nI_add _ 1) (by decide) rfl (fun ls hl => ?_)
        refine lv_goto (tgt := 2) hx hb dX2_firstViolation_27 (by decide) ?_
        exact ih2 (i + 1) (by rcases Nat.lt_or_ge i v with z | z; omega; (rw [show i = v by omega] at c19; exact absurd hv1 c19)) (by omega) ls (lv_sub hl [0, 1] rfl)
      · rw [bN_1] at c19
        refine lv_iload_n hx hb dX2_firstViolation_22 rfl (lv_at hl 0 rfl) ?_
        exact rRetI hx hb hr hlocks (congrArg (fun z => Value.int (nI z)) (by rcases Nat.lt_or_ge i v with z | z; (rw [hv0 i z] at c19; exact absurd c19 (by decide)); omega)) dX2_firstViolation_23
  exact loop2 (v + 1) 0 (by omega) (by omega) ls (lv_sub hl [0, 1] rfl)

set_option maxHeartbeats 4000000 in
set_option maxRecDepth 100000 in
theorem c_X2_firstViolation_n (l : Launch) (D : va_G) (ca : Nat → ClassId) (xa fo pa mo ta ou : Nat) (n : Nat) (B : BL) (f : Nat → Int64) (hR : ∀ i, i < B.length → f i = lN (bC B i)) (hV : ∀ i, i < B.length → bC B i < 2 ^ 54) (hB : B.length ≤ 4000) (hn : n ≤ 3) (hn1 : 1 ≤ n) (hv0 : ∀ i, i < B.length → vioB (bC B i) n = false) : RD l D ca yX2_firstViolation wsX2_firstViolation 3 69 [(xa, .inr (0, [.ref fo, .ref pa, .ref mo, .ref ta, .ref ou, .int (nI B.length), .int (nI n)])), (fo, .inl (ca 1, 4000, .inr (.inl f)))] [.ref xa] (.int ((-9))) := by
  refine RD.start (cc := cX2_firstViolation) (maxL := 2) (ret := (some .int)) (by decide) rfl (Nat.le_of_ble_eq_true rfl) ?_
  intro p_ e_ s_ m_ below_ meth_ c_ hx hb hml hr hlocks hown hts hP hK ls hl
  have hown : s_.vm.findClass RX2 = some m_.cls := hown
  have hl : lv_has ls 2 [(0, .ref xa)] := hl
  have hinX20 : ∀ w ∈ wsX20, w ∈ wsX2_firstViolation := fun w h => List.mem_cons_of_mem _ (List.mem_append_right _ h)
  refine lv_iconst (v := nI 0) hx hb dX2_firstViolation_0 (by decide) ?_
  refine lv_istore_n (lv' := [(1, .int (nI 0)), (0, .ref xa)]) hx hb dX2_firstViolation_1 rfl hl (by decide) rfl (fun ls hl => ?_)
  have loop2 : ∀ (N_ : Nat) (i : Nat) (hi : i ≤ B.length) (hf : B.length < i + N_), ∀ (ls : Array Slot), lv_has ls 2 [(1, .int (nI i)), (0, .ref xa)] → W p_ l e_ ({ frames := 3, cells := 0, slots := 0, locals := 69 }) s_ m_ ([.ref xa]).toArray below_ meth_ c_ s_.heap [] 0 0 (MQ below_ (k2_QcV (.int ((-9)))) ([.ref xa]).toArray s_ 0 0 (fun _ => False)) (F0 m_ 2 ls []) := by
    intro N_
    induction N_ with
    | zero => intro i hi hf; exfalso; omega
    | succ N_ ih2 =>
      intro i hi hf ls hl
      refine lv_iload_n hx hb dX2_firstViolation_2 rfl (lv_at hl 0 rfl) ?_
      refine lv_aload_n hx hb dX2_firstViolation_3 rfl (lv_at hl 1 rfl) ?_
      refine va_get (D := D) (ci := 0) (v := .int (nI B.length)) (C := RX2) (T := TX2) (N := 7) hx hb hts hinX20 hown hK.1 hP 0 rfl rfl 5 (by decide) (hts (.fieldLink RX2 34 "RenamingGrid$Exploration" "count" "I") (List.mem_of_getElem? (i := 1) rfl)) (fun _ h9 => h9) rfl dX2_firstViolation_4 ?_
      refine n_ic_ge (tgt := 30) hx hb dX2_firstViolation_7 (by decide) (by omega) (by omega) (fun c7 => ?_) (fun c7 => ?_)
      · refine lv_bipush (v := -9) hx hb dX2_firstViolation_30 (by decide) ?_
        exact rRetI hx hb hr hlocks rfl dX2_firstViolation_32
      · refine lv_aload_n hx hb dX2_firstViolation_10 rfl (lv_at hl 1 rfl) ?_
        refine lv_aload_n hx hb dX2_firstViolation_11 rfl (lv_at hl 1 rfl) ?_
        refine lv_iload_n hx hb dX2_firstViolation_12 rfl (lv_at hl 0 rfl) ?_
        refine rdV (nL := 2) (ci := 0) (q0 := 0) (cq := (RX2, TX2, 7)) hx hb hml hown hts hK hP [.int (nI i)] [.ref xa] (c_X2_foundAt l D ca xa fo pa mo ta ou B.length n f i (by omega)) gX2_firstViolation_X2_foundAt rfl ⟨rfl, qX2_foundAt⟩ ⟨Nat.le_of_ble_eq_true rfl, Nat.le_of_ble_eq_true rfl⟩ rfl rfl [0, 1] rfl rfl hl.1 (Nat.le_of_ble_eq_true rfl) ⟨Nat.le_of_ble_eq_true rfl, Nat.le_of_ble_eq_true rfl⟩ dX2_firstViolation_13 ?_
        rw [show ((f i)) = (lN (bC B i)) from (hR i (by omega))]
        refine rdV (nL := 2) (ci := 0) (q0 := 0) (cq := (RX2, TX2, 7)) hx hb hml hown hts hK hP [.long (lN (bC B i))] [] (c_X2_isViolation l D ca xa fo pa mo ta ou B.length n (bC B i) (hV i (by omega)) hn hn1) gX2_firstViolation_X2_isViolation rfl ⟨rfl, qX2_isViolation⟩ ⟨Nat.le_of_ble_eq_true rfl, Nat.le_of_ble_eq_true rfl⟩ rfl rfl [0] rfl rfl hl.1 (Nat.le_of_ble_eq_true rfl) ⟨Nat.le_of_ble_eq_true rfl, Nat.le_of_ble_eq_true rfl⟩ dX2_firstViolation_16 ?_
        refine n_if_eq (tgt := 24) hx hb dX2_firstViolation_19 (by decide) (bN_b _) (fun c19 => ?_) (fun c19 => ?_)
        · rw [bN_0] at c19
          refine lv_iinc (v := (nI (i + 1))) (lv' := [(1, .int (nI (i + 1))), (0, .ref xa)]) hx hb dX2_firstViolation_24 hl (k := 0) rfl (show nI i + Int32.ofInt 1 = nI (i + 1) from nI_add _ 1) (by decide) rfl (fun ls hl => ?_)
          refine lv_goto (tgt := 2) hx hb dX2_firstViolation_27 (by decide) ?_
          exact ih2 (i + 1) (by omega) (by omega) ls (lv_sub hl [0, 1] rfl)
        · rw [bN_1] at c19
          rw [hv0 i (by omega)] at c19
          exact absurd c19 (by decide)
  exact loop2 (B.length + 1) 0 (by omega) (by omega) ls (lv_sub hl [0, 1] rfl)

set_option maxHeartbeats 4000000 in
set_option maxRecDepth 100000 in
theorem c_X2_moverTowardsViolation (l : Launch) (D : va_G) (ca : Nat → ClassId) (xa fo pa mo ta ou : Nat) (n : Nat) (B : BL) (f : Nat → Int64) (p m : Nat → Int32) (hRB : RB B f p m) (hV : ∀ i, i < B.length → bC B i < 2 ^ 54) (hB : B.length ≤ 4000) (hn : n ≤ 3) (hn1 : 1 ≤ n) (hW : WFB B) (v : Nat) (hv : v < B.length) (hv1 : vioB (bC B v) n = true) (hv0 : ∀ i, i < v → vioB (bC B i) n = false) (j : Nat) (hj : j < 2 ^ 31) : RD l D ca yX2_moverTowardsViolation wsX2_moverTowardsViolation 4 90 [(xa, .inr (0, [.ref fo, .ref pa, .ref mo, .ref ta, .ref ou, .int (nI B.length), .int (nI n)])), (fo, .inl (ca 1, 4000, .inr (.inl f))), (pa, .inl (ca 0, 4000, .inl p)), (mo, .inl (ca 0, 4000, .inl m))] [.ref xa, .int (nI j)] (.int ((if j < dep B v then nI (bM B (anc B v (dep B v - 1 - j))) else -9))) := by
  refine RD.start (cc := cX2_moverTowardsViolation) (maxL := 5) (ret := (some .int)) (by decide) rfl (Nat.le_of_ble_eq_true rfl) ?_
  intro p_ e_ s_ m_ below_ meth_ c_ hx hb hml hr hlocks hown hts hP hK ls hl
  have hown : s_.vm.findClass RX2 = some m_.cls := hown
  have hl : lv_has ls 5 [(0, .ref xa), (1, .int (nI j))] := hl
  have hinX20 : ∀ w ∈ wsX20, w ∈ wsX2_moverTowardsViolation := fun w h => List.mem_cons_of_mem _ (List.mem_append_right _ h)
  refine lv_aload_n hx hb dX2_moverTowardsViolation_0 rfl (lv_at hl 0 rfl) ?_
  refine rdV (nL := 5) (ci := 0) (q0 := 0) (cq := (RX2, TX2, 7)) hx hb hml hown hts hK hP [] [] (c_X2_firstViolation l D ca xa fo pa mo ta ou n B f (fun i hi => (hRB i hi).1) hV hB hn hn1 v hv hv1 hv0) gX2_moverTowardsViolation_X2_firstViolation rfl ⟨rfl, qX2_firstViolation⟩ ⟨Nat.le_of_ble_eq_true rfl, Nat.le_of_ble_eq_true rfl⟩ rfl rfl [0, 1] rfl rfl hl.1 (Nat.le_of_ble_eq_true rfl) ⟨Nat.le_of_ble_eq_true rfl, Nat.le_of_ble_eq_true rfl⟩ dX2_moverTowardsViolation_1 ?_
  refine lv_istore_n (lv' := [(2, .int (nI v)), (0, .ref xa), (1, .int (nI j))]) hx hb dX2_moverTowardsViolation_4 rfl hl (by decide) rfl (fun ls hl => ?_)
  refine lv_aload_n hx hb dX2_moverTowardsViolation_5 rfl (lv_at hl 1 rfl) ?_
  refine lv_iload_n hx hb dX2_moverTowardsViolation_6 rfl (lv_at hl 0 rfl) ?_
  refine rdV (nL := 5) (ci := 0) (q0 := 0) (cq := (RX2, TX2, 7)) hx hb hml hown hts hK hP [.int (nI v)] [] (c_X2_depthOf l D ca xa fo pa mo ta ou n B p (fun i hi => (hRB i hi).2.1) hB hW v hv) gX2_moverTowardsViolation_X2_depthOf rfl ⟨rfl, qX2_depthOf⟩ ⟨Nat.le_of_ble_eq_true rfl, Nat.le_of_ble_eq_true rfl⟩ rfl rfl [0, 2] rfl rfl hl.1 (Nat.le_of_ble_eq_true rfl) ⟨Nat.le_of_ble_eq_true rfl, Nat.le_of_ble_eq_true rfl⟩ dX2_moverTowardsViolation_7 ?_
  refine lv_iconst (v := nI 1) hx hb dX2_moverTowardsViolation_10 (by decide) ?_
  refine lv_isub hx hb dX2_moverTowardsViolation_11 ?_
  refine lv_iload_n hx hb dX2_moverTowardsViolation_12 rfl (lv_at hl 2 rfl) ?_
  refine lv_isub hx hb dX2_moverTowardsViolation_13 ?_
  have hdl : dep B v ≤ v := dep_le hW v hv
  rcases Nat.lt_or_ge j (dep B v) with hjd | hjd
  · rw [show (((((nI (dep B v)) - (nI 1))) - (nI j))) = (nI (dep B v - 1 - j)) from (by rw [pk_sub (by omega), pk_sub (by omega)])]
    refine lv_istore_n (lv' := [(3, .int (nI (dep B v - 1 - j))), (2, .int (nI v)), (0, .ref xa), (1, .int (nI j))]) hx hb dX2_moverTowardsViolation_14 rfl hl (by decide) rfl (fun ls hl => ?_)
    refine lv_iload_n hx hb dX2_moverTowardsViolation_15 rfl (lv_at hl 0 rfl) ?_
    refine n_if_ge (tgt := 22) hx hb dX2_moverTowardsViolation_16 (by decide) (by omega) ?_
    refine lv_iconst (v := nI 0) hx hb dX2_moverTowardsViolation_22 (by decide) ?_
    refine lv_istore (lv' := [(4, .int (nI 0)), (3, .int (nI (dep B v - 1 - j))), (2, .int (nI v)), (0, .ref xa), (1, .int (nI j))]) hx hb dX2_moverTowardsViolation_23 hl (by decide) rfl (fun ls hl => ?_)
    have loop25 : ∀ (N_ : Nat) (i : Nat) (hi : i ≤ dep B v - 1 - j) (hf : dep B v - 1 - j < i + N_), ∀ (ls : Array Slot), lv_has ls 5 [(4, .int (nI i)), (3, .int (nI (dep B v - 1 - j))), (2, .int (nI (anc B v i))), (0, .ref xa), (1, .int (nI j))] → W p_ l e_ ({ frames := 4, cells := 0, slots := 0, locals := 90 }) s_ m_ ([.ref xa, .int (nI j)]).toArray below_ meth_ c_ s_.heap [] 0 0 (MQ below_ (k2_QcV (.int ((if j < dep B v then nI (bM B (anc B v (dep B v - 1 - j))) else -9)))) ([.ref xa, .int (nI j)]).toArray s_ 0 0 (fun _ => False)) (F0 m_ 25 ls []) := by
      intro N_
      induction N_ with
      | zero => intro i hi hf; exfalso; omega
      | succ N_ ih25 =>
        intro i hi hf ls hl
        refine lv_iload hx hb dX2_moverTowardsViolation_25 (lv_at hl 0 rfl) ?_
        refine lv_iload_n hx hb dX2_moverTowardsViolation_27 rfl (lv_at hl 1 rfl) ?_
        refine n_ic_ge (tgt := 43) hx hb dX2_moverTowardsViolation_28 (by decide) (by omega) (by omega) (fun c28 => ?_) (fun c28 => ?_)
        · have hie : i = dep B v - 1 - j := by omega
          refine lv_iload_n hx hb dX2_moverTowardsViolation_43 rfl (lv_at hl 2 rfl) ?_
          refine n_if_lt (tgt := 65) hx hb dX2_moverTowardsViolation_44 (by decide) (by have := anc_dep hW hv i (by omega); omega) ?_
          refine lv_iload_n hx hb dX2_moverTowardsViolation_47 rfl (lv_at hl 2 rfl) ?_
          refine lv_aload_n hx hb dX2_moverTowardsViolation_48 rfl (lv_at hl 3 rfl) ?_
          refine va_get (D := D) (ci := 0) (v := .ref mo) (C := RX2) (T := TX2) (N := 7) hx hb hts hinX20 hown hK.1 hP 0 rfl rfl 2 (by decide) (hts (.fieldLink RX2 19 "RenamingGrid$Exploration" "movers" "[I") (List.mem_of_getElem? (i := 1) rfl)) (fun _ h9 => h9) rfl dX2_moverTowardsViolation_49 ?_
          refine va_alen (D := D) (v := nI 4000) hx hb hK.1 hP 3 0 rfl rfl rfl dX2_moverTowardsViolation_52 ?_
          refine n_ic_ge (tgt := 65) hx hb dX2_moverTowardsViolation_53 (by decide) (by have := anc_dep hW hv i (by omega); omega) (by decide) (fun c53 => absurd c53 (by have := anc_dep hW hv i (by omega); omega)) (fun c53 => ?_)
          refine lv_aload_n hx hb dX2_moverTowardsViolation_56 rfl (lv_at hl 3 rfl) ?_
          refine va_get (D := D) (ci := 0) (v := .ref mo) (C := RX2) (T := TX2) (N := 7) hx hb hts hinX20 hown hK.1 hP 0 rfl rfl 2 (by decide) (hts (.fieldLink RX2 19 "RenamingGrid$Exploration" "movers" "[I") (List.mem_of_getElem? (i := 1) rfl)) (fun _ h9 => h9) rfl dX2_moverTowardsViolation_57 ?_
          refine lv_iload_n hx hb dX2_moverTowardsViolation_60 rfl (lv_at hl 2 rfl) ?_
          refine n_iald (D := D) (ca := ca) (v := (nI (bM B (anc B v i)))) hx hb hK.1 hP 3 (f := m) rfl (by have := anc_dep hW hv i (by omega); omega) (by decide) ((hRB _ (anc_dep hW hv i (by omega)).1).2.2 (by have h1 := anc_dep hW hv i (by omega); rcases Nat.eq_zero_or_pos (anc B v i) with z | z; (rw [z, dep_0] at h1; omega); exact z)) dX2_moverTowardsViolation_61 ?_
          refine lv_goto (tgt := 67) hx hb dX2_moverTowardsViolation_62 (by decide) ?_
          exact rRetI hx hb hr hlocks (congrArg Value.int (by rw [if_pos hjd, hie])) dX2_moverTowardsViolation_67
        · refine lv_aload_n hx hb dX2_moverTowardsViolation_31 rfl (lv_at hl 3 rfl) ?_
          refine lv_iload_n hx hb dX2_moverTowardsViolation_32 rfl (lv_at hl 2 rfl) ?_
          refine rdV (nL := 5) (ci := 0) (q0 := 0) (cq := (RX2, TX2, 7)) hx hb hml hown hts hK hP [.int (nI (anc B v i))] [] (c_X2_parentOf l D ca xa fo pa mo ta ou B.length n p (anc B v i) (by have := anc_dep hW hv i (by omega); omega)) gX2_moverTowardsViolation_X2_parentOf rfl ⟨rfl, qX2_parentOf⟩ ⟨Nat.le_of_ble_eq_true rfl, Nat.le_of_ble_eq_true rfl⟩ rfl rfl [0, 2] rfl rfl hl.1 (Nat.le_of_ble_eq_true rfl) ⟨Nat.le_of_ble_eq_true rfl, Nat.le_of_ble_eq_true rfl⟩ dX2_moverTowardsViolation_33 ?_
          rw [show ((p (anc B v i))) = (nI (anc B v (i + 1))) from ((hRB _ (anc_dep hW hv i (by omega)).1).2.1)]
          refine lv_istore_n (lv' := [(2, .int (nI (anc B v (i + 1)))), (4, .int (nI i)), (3, .int (nI (dep B v - 1 - j))), (0, .ref xa), (1, .int (nI j))]) hx hb dX2_moverTowardsViolation_36 rfl hl (by decide) rfl (fun ls hl => ?_)
          refine lv_iinc (v := (nI (i + 1))) (lv' := [(4, .int (nI (i + 1))), (2, .int (nI (anc B v (i + 1)))), (3, .int (nI (dep B v - 1 - j))), (0, .ref xa), (1, .int (nI j))]) hx hb dX2_moverTowardsViolation_37 hl (k := 1) rfl (show nI i + Int32.ofInt 1 = nI (i + 1) from nI_add _ 1) (by decide) rfl (fun ls hl => ?_)
          refine lv_goto (tgt := 25) hx hb dX2_moverTowardsViolation_40 (by decide) ?_
          exact ih25 (i + 1) (by omega) (by omega) ls (lv_sub hl [0, 2, 1, 3, 4] rfl)
    exact loop25 (dep B v + 1) 0 (by omega) (by omega) ls (lv_sub hl [0, 1, 2, 3, 4] rfl)
  · refine lv_istore_n (lv' := [(3, .int (((((nI (dep B v)) - (nI 1))) - (nI j)))), (2, .int (nI v)), (0, .ref xa), (1, .int (nI j))]) hx hb dX2_moverTowardsViolation_14 rfl hl (by decide) rfl (fun ls hl => ?_)
    refine lv_iload_n hx hb dX2_moverTowardsViolation_15 rfl (lv_at hl 0 rfl) ?_
    refine lv_if_ge (tgt := 22) hx hb dX2_moverTowardsViolation_16 (by decide) (fun c16 => absurd c16 (neg_q (by omega) hj hjd)) (fun c16 => ?_)
    refine lv_bipush (v := -9) hx hb dX2_moverTowardsViolation_19 (by decide) ?_
    exact rRetI hx hb hr hlocks (congrArg Value.int (by rw [if_neg (by omega)])) dX2_moverTowardsViolation_21

set_option maxHeartbeats 4000000 in
set_option maxRecDepth 100000 in
theorem c_X2_moverTowardsViolation_n (l : Launch) (D : va_G) (ca : Nat → ClassId) (xa fo pa mo ta ou : Nat) (n : Nat) (B : BL) (f : Nat → Int64) (p m : Nat → Int32) (hRB : RB B f p m) (hV : ∀ i, i < B.length → bC B i < 2 ^ 54) (hB : B.length ≤ 4000) (hn : n ≤ 3) (hn1 : 1 ≤ n) (hv0 : ∀ i, i < B.length → vioB (bC B i) n = false) (j : Nat) (hj : j < 2 ^ 31) : RD l D ca yX2_moverTowardsViolation wsX2_moverTowardsViolation 4 90 [(xa, .inr (0, [.ref fo, .ref pa, .ref mo, .ref ta, .ref ou, .int (nI B.length), .int (nI n)])), (fo, .inl (ca 1, 4000, .inr (.inl f))), (pa, .inl (ca 0, 4000, .inl p)), (mo, .inl (ca 0, 4000, .inl m))] [.ref xa, .int (nI j)] (.int ((-9))) := by
  refine RD.start (cc := cX2_moverTowardsViolation) (maxL := 5) (ret := (some .int)) (by decide) rfl (Nat.le_of_ble_eq_true rfl) ?_
  intro p_ e_ s_ m_ below_ meth_ c_ hx hb hml hr hlocks hown hts hP hK ls hl
  have hown : s_.vm.findClass RX2 = some m_.cls := hown
  have hl : lv_has ls 5 [(0, .ref xa), (1, .int (nI j))] := hl
  have hinX20 : ∀ w ∈ wsX20, w ∈ wsX2_moverTowardsViolation := fun w h => List.mem_cons_of_mem _ (List.mem_append_right _ h)
  refine lv_aload_n hx hb dX2_moverTowardsViolation_0 rfl (lv_at hl 0 rfl) ?_
  refine rdV (nL := 5) (ci := 0) (q0 := 0) (cq := (RX2, TX2, 7)) hx hb hml hown hts hK hP [] [] (c_X2_firstViolation_n l D ca xa fo pa mo ta ou n B f (fun i hi => (hRB i hi).1) hV hB hn hn1 hv0) gX2_moverTowardsViolation_X2_firstViolation rfl ⟨rfl, qX2_firstViolation⟩ ⟨Nat.le_of_ble_eq_true rfl, Nat.le_of_ble_eq_true rfl⟩ rfl rfl [0, 1] rfl rfl hl.1 (Nat.le_of_ble_eq_true rfl) ⟨Nat.le_of_ble_eq_true rfl, Nat.le_of_ble_eq_true rfl⟩ dX2_moverTowardsViolation_1 ?_
  refine lv_istore_n (lv' := [(2, .int ((-9))), (0, .ref xa), (1, .int (nI j))]) hx hb dX2_moverTowardsViolation_4 rfl hl (by decide) rfl (fun ls hl => ?_)
  refine lv_aload_n hx hb dX2_moverTowardsViolation_5 rfl (lv_at hl 1 rfl) ?_
  refine lv_iload_n hx hb dX2_moverTowardsViolation_6 rfl (lv_at hl 0 rfl) ?_
  refine rdV (nL := 5) (ci := 0) (q0 := 0) (cq := (RX2, TX2, 7)) hx hb hml hown hts hK hP [.int ((-9))] [] (c_X2_depthOf_n l D ca xa fo pa mo ta ou B.length n p) gX2_moverTowardsViolation_X2_depthOf rfl ⟨rfl, qX2_depthOf⟩ ⟨Nat.le_of_ble_eq_true rfl, Nat.le_of_ble_eq_true rfl⟩ rfl rfl [0, 2] rfl rfl hl.1 (Nat.le_of_ble_eq_true rfl) ⟨Nat.le_of_ble_eq_true rfl, Nat.le_of_ble_eq_true rfl⟩ dX2_moverTowardsViolation_7 ?_
  refine lv_iconst (v := nI 1) hx hb dX2_moverTowardsViolation_10 (by decide) ?_
  refine lv_isub hx hb dX2_moverTowardsViolation_11 ?_
  refine lv_iload_n hx hb dX2_moverTowardsViolation_12 rfl (lv_at hl 2 rfl) ?_
  refine lv_isub hx hb dX2_moverTowardsViolation_13 ?_
  refine lv_istore_n (lv' := [(3, .int (((((nI 0) - (nI 1))) - (nI j)))), (2, .int ((-9))), (0, .ref xa), (1, .int (nI j))]) hx hb dX2_moverTowardsViolation_14 rfl hl (by decide) rfl (fun ls hl => ?_)
  refine lv_iload_n hx hb dX2_moverTowardsViolation_15 rfl (lv_at hl 0 rfl) ?_
  refine lv_if_ge (tgt := 22) hx hb dX2_moverTowardsViolation_16 (by decide) (fun c16 => absurd c16 (neg_q (by omega) hj (Nat.zero_le _))) (fun c16 => ?_)
  refine lv_bipush (v := -9) hx hb dX2_moverTowardsViolation_19 (by decide) ?_
  exact rRetI hx hb hr hlocks rfl dX2_moverTowardsViolation_21

