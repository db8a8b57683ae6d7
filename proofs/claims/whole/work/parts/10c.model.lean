/-! ===== the model: steps made, runs ===== -/
theorem nI_ne9 {x : Nat} (h : x < 16) : ¬ nI x = -9 := fun e => by
  have := (n9_m9 (x := x + 1) (by omega)).mp (by rw [n9_p (by omega)]; exact e)
  omega
theorem lf_lt {S : Nat → Nat} {p : Nat} (h : advA S p < 2) : lfQ (S 3) p (S 0) (S 2) = -9 := if_neg (fun z => absurd h (Nat.not_lt.mpr z))
theorem lf_ge {S : Nat → Nat} {p : Nat} (h : 2 ≤ advA S p) : lfQ (S 3) p (S 0) (S 2) = nI (spC (S 3) p) := if_pos h
theorem wr_1 {S : Nat → Nat} {p : Nat} {x : Int32} (h : 2 ≤ advA S p) (h1 : phC (S 3) p = 1) : wrQ x (S 3) p (S 0) (S 2) = nI 1 := by
  unfold wrQ
  rw [if_pos (show 2 ≤ stA (S 3) p (S 0) (S 2) from h), if_pos h1]
theorem wr_0 {S : Nat → Nat} {p : Nat} {x : Int32} (h : 2 ≤ advA S p) (h1 : ¬ phC (S 3) p = 1) : wrQ x (S 3) p (S 0) (S 2) = nI 0 := by
  unfold wrQ
  rw [if_pos (show 2 ≤ stA (S 3) p (S 0) (S 2) from h), if_neg h1]
theorem runN_stop {S : Nat → Nat} {p : Nat} (h : stC (S 3) p ≠ 0) : ∀ k, runN k S p = 0
  | 0 => rfl
  | _ + 1 => if_neg h
theorem runS_stop {S : Nat → Nat} {p : Nat} (h : stC (S 3) p ≠ 0) : ∀ k, runS k S p = S
  | 0 => rfl
  | _ + 1 => if_neg h
theorem runN_go {S : Nat → Nat} {p : Nat} (h : stC (S 3) p = 0) (k : Nat) : runN (k + 1) S p = runN k (advS S p) p + 1 := if_pos h
theorem runS_go {S : Nat → Nat} {p : Nat} (h : stC (S 3) p = 0) (k : Nat) : runS (k + 1) S p = runS k (advS S p) p := if_pos h
theorem advA_4 (S : Nat → Nat) (p : Nat) : advA S p ≤ 4 := by
  unfold advA
  repeat' split
  all_goals decide
theorem pot_16 (C p : Nat) : pot C p ≤ 16 := by unfold pot; split <;> omega

set_option maxHeartbeats 4000000 in
set_option maxRecDepth 100000 in
theorem c_X6_make (l : Launch) (D : va_G) (ca : Nat → ClassId) (m : Nat) (r : Nat → Nat) (g : Nat → Int32) (s S : Nat → Nat) (hs : MR s S) (hok : SOK S) (p : Nat) (hp : p < S 1) (hr0 : stC (S 3) p = 0) : UP l D ca yX6_make wsX6_make 3 71 0 0 [(m, .inr (4, mF r g)), (r 1, .inl (ca 0, 38, .inl (rwN s)))] [.ref m, .int (nI p)] (one (some (.int (nI (advA S p)))) [(m, .inr (4, mF r (upd (upd (upd (upd g 8 (nI (regs (nxC S p)))) 9 (nI (qn (nxC S p)))) 10 ((lfQ (S 3) p (S 0) (S 2)))) 11 ((wrQ (g 11) (S 3) p (S 0) (S 2)))))), (r 1, .inl (ca 0, 38, .inl (rwN ((mkR s S p)))))]) := by
  refine UP.start (cc := cX6_make) (maxL := 3) (ret := (some .int)) (by decide) rfl (Nat.le_of_ble_eq_true rfl) ?_
  intro p_ e_ s_ m_ below_ meth_ c_ A hx hb hml hr hlocks hin hown hts hK hA hP hD hS ls hl
  have hown : s_.vm.findClass RX6 = some m_.cls := hown
  have hl : lv_has ls 3 [(0, .ref m), (1, .int (nI p))] := hl
  have hinX60 : ∀ w ∈ wsX60, w ∈ wsX6_make := fun w h => List.mem_cons_of_mem _ (List.mem_append_right _ h)
  have hp3 : p < 3 := by have := hok.2.1; omega
  have hs10 := pOK_sp (hok.2.2.2.2.1 p hp3)
  have hA4 := advA_4 S p
  refine lv_aload_n hx hb dX6_make_0 rfl (lv_at hl 0 rfl) ?_
  refine uV (nL := 3) (wr := []) (ci := 4) (q0 := 0) (cq := (RX6, TX6, 34)) hx hb hml hown hts hK hA hP hD hS [] [] (c_X6_take l D ca m r g s S hs) gX6_make_X6_take rfl ⟨rfl, qX6_take⟩ ⟨Nat.le_of_ble_eq_true rfl, Nat.le_of_ble_eq_true rfl⟩ rfl rfl [0, 1] [] rfl rfl (by decide) (by decide) rfl hl.1 (Nat.le_of_ble_eq_true rfl) ⟨Nat.le_of_ble_eq_true rfl, Nat.le_of_ble_eq_true rfl⟩ dX6_make_1 (oneK (wsN := [(m, .inr (4, mF r (upd (upd g 8 (nI (regs (S 3)))) 9 (nI (qn (S 3)))))), (r 1, .inl (ca 0, 38, .inl (rwN s)))]) [0, 1] (by decide) rfl (st1 := []) rfl 0 0 rfl rfl (fun H locs hP hD hS => ?_))
  refine lv_aload_n hx hb dX6_make_4 rfl (lv_at hl 0 rfl) ?_
  refine lv_iload_n hx hb dX6_make_5 rfl (lv_at hl 1 rfl) ?_
  refine uV (nL := 3) (wr := []) (ci := 4) (q0 := 0) (cq := (RX6, TX6, 34)) hx hb hml hown hts hK hA hP hD hS [.int (nI p)] [] (c_X6_stepOf l D ca m r ((upd (upd g 8 (nI (regs (S 3)))) 9 (nI (qn (S 3))))) s (S 0) (S 2) (S 3) p (hs 0 (by decide)) (hs 2 (by decide)) hok.1 hok.2.2.1 hok.2.2.2.1 hp3 hr0 (hok.2.2.2.2.1 p hp3) rfl rfl) gX6_make_X6_stepOf rfl ⟨rfl, qX6_stepOf⟩ ⟨Nat.le_of_ble_eq_true rfl, Nat.le_of_ble_eq_true rfl⟩ rfl rfl [0, 1] [] rfl rfl (by decide) (by decide) rfl hl.1 (Nat.le_of_ble_eq_true rfl) ⟨Nat.le_of_ble_eq_true rfl, Nat.le_of_ble_eq_true rfl⟩ dX6_make_6 (oneK (wsN := [(m, .inr (4, mF r (upd (upd (upd (upd g 8 (nI (regs (nxC S p)))) 9 (nI (qn (nxC S p)))) 10 ((lfQ (S 3) p (S 0) (S 2)))) 11 ((wrQ ((g 11)) (S 3) p (S 0) (S 2)))))), (r 1, .inl (ca 0, 38, .inl (rwN s)))]) [0, 1] (by decide) rfl (st1 := [.int (nI (advA S p))]) rfl 0 0 rfl rfl (fun H locs hP hD hS => ?_))
  rcases Nat.lt_or_ge (advA S p) 2 with hlt | hge
  · rw [lf_lt hlt] at hP hD
    have hP : va_P D vwCl [(m, .inr (4, mF r (upd (upd (upd (upd g 8 (nI (regs (nxC S p)))) 9 (nI (qn (nxC S p)))) 10 ((-9))) 11 ((wrQ ((g 11)) (S 3) p (S 0) (S 2)))))), (r 1, .inl (ca 0, 38, .inl (rwN s)))] H := hP
    have hD : va_D A [(m, .inr (4, mF r (upd (upd (upd (upd g 8 (nI (regs (nxC S p)))) 9 (nI (qn (nxC S p)))) 10 ((-9))) 11 ((wrQ ((g 11)) (S 3) p (S 0) (S 2)))))), (r 1, .inl (ca 0, 38, .inl (rwN s)))] := hD
    refine lv_istore_n (lv' := [(2, .int (nI (advA S p))), (0, .ref m), (1, .int (nI p))]) hx hb dX6_make_9 rfl hl (by decide) rfl (fun ls hl => ?_)
    refine lv_aload_n hx hb dX6_make_10 rfl (lv_at hl 1 rfl) ?_
    refine va_get (D := D) (ci := 4) (v := .ref (r 1)) (C := RX6) (T := TX6) (N := 34) hx hb hts hinX60 hown hK.1 hP 0 rfl rfl 1 (by decide) (hts (.fieldLink RX6 7 "RenamingGridModel" "s" "[I") (List.mem_of_getElem? (i := 1) rfl)) (fun _ h9 => h9) rfl dX6_make_11 ?_
    refine lv_iconst (v := nI 3) hx hb dX6_make_14 (by decide) ?_
    refine lv_aload_n hx hb dX6_make_15 rfl (lv_at hl 1 rfl) ?_
    refine va_get (D := D) (ci := 4) (v := .int (nI (regs (nxC S p)))) (C := RX6) (T := TX6) (N := 34) hx hb hts hinX60 hown hK.1 hP 0 rfl rfl 8 (by decide) (hts (.fieldLink RX6 64 "RenamingGridModel" "registers" "I") (List.mem_of_getElem? (i := 2) rfl)) (fun _ h9 => h9) rfl dX6_make_16 ?_
    refine n_iast (D := D) (ca := ca) hx hb hK.1 hP hD hS 1 (f := (rwN s)) rfl (by omega) (by decide) dX6_make_19 (fun H locs hP hD hS => ?_)
    have hP : va_P D vwCl [(m, .inr (4, mF r (upd (upd (upd (upd g 8 (nI (regs (nxC S p)))) 9 (nI (qn (nxC S p)))) 10 ((-9))) 11 ((wrQ ((g 11)) (S 3) p (S 0) (S 2)))))), (r 1, .inl (ca 0, 38, .inl (upd (rwN s) 3 (nI (regs (nxC S p))))))] H := hP
    have hD : va_D A [(m, .inr (4, mF r (upd (upd (upd (upd g 8 (nI (regs (nxC S p)))) 9 (nI (qn (nxC S p)))) 10 ((-9))) 11 ((wrQ ((g 11)) (S 3) p (S 0) (S 2)))))), (r 1, .inl (ca 0, 38, .inl (upd (rwN s) 3 (nI (regs (nxC S p))))))] := hD
    rw [rwN_up] at hP hD
    refine lv_aload_n hx hb dX6_make_20 rfl (lv_at hl 1 rfl) ?_
    refine va_get (D := D) (ci := 4) (v := .ref (r 1)) (C := RX6) (T := TX6) (N := 34) hx hb hts hinX60 hown hK.1 hP 0 rfl rfl 1 (by decide) (hts (.fieldLink RX6 7 "RenamingGridModel" "s" "[I") (List.mem_of_getElem? (i := 1) rfl)) (fun _ h9 => h9) rfl dX6_make_21 ?_
    refine lv_iconst (v := nI 4) hx hb dX6_make_24 (by decide) ?_
    refine lv_aload_n hx hb dX6_make_25 rfl (lv_at hl 1 rfl) ?_
    refine va_get (D := D) (ci := 4) (v := .int (nI (qn (nxC S p)))) (C := RX6) (T := TX6) (N := 34) hx hb hts hinX60 hown hK.1 hP 0 rfl rfl 9 (by decide) (hts (.fieldLink RX6 61 "RenamingGridModel" "processes" "I") (List.mem_of_getElem? (i := 3) rfl)) (fun _ h9 => h9) rfl dX6_make_26 ?_
    refine n_iast (D := D) (ca := ca) hx hb hK.1 hP hD hS 1 (f := (rwN (va_up s 3 (regs (nxC S p))))) rfl (by omega) (by decide) dX6_make_29 (fun H locs hP hD hS => ?_)
    have hP : va_P D vwCl [(m, .inr (4, mF r (upd (upd (upd (upd g 8 (nI (regs (nxC S p)))) 9 (nI (qn (nxC S p)))) 10 ((-9))) 11 ((wrQ ((g 11)) (S 3) p (S 0) (S 2)))))), (r 1, .inl (ca 0, 38, .inl (upd (rwN (va_up s 3 (regs (nxC S p)))) 4 (nI (qn (nxC S p))))))] H := hP
    have hD : va_D A [(m, .inr (4, mF r (upd (upd (upd (upd g 8 (nI (regs (nxC S p)))) 9 (nI (qn (nxC S p)))) 10 ((-9))) 11 ((wrQ ((g 11)) (S 3) p (S 0) (S 2)))))), (r 1, .inl (ca 0, 38, .inl (upd (rwN (va_up s 3 (regs (nxC S p)))) 4 (nI (qn (nxC S p))))))] := hD
    rw [rwN_up] at hP hD
    refine lv_aload_n hx hb dX6_make_30 rfl (lv_at hl 1 rfl) ?_
    refine va_get (D := D) (ci := 4) (v := .ref (r 1)) (C := RX6) (T := TX6) (N := 34) hx hb hts hinX60 hown hK.1 hP 0 rfl rfl 1 (by decide) (hts (.fieldLink RX6 7 "RenamingGridModel" "s" "[I") (List.mem_of_getElem? (i := 1) rfl)) (fun _ h9 => h9) rfl dX6_make_31 ?_
    refine lv_iconst (v := nI 5) hx hb dX6_make_34 (by decide) ?_
    refine lv_iload_n hx hb dX6_make_35 rfl (lv_at hl 2 rfl) ?_
    refine n_iadd hx hb dX6_make_36 ?_
    refine lv_dup2_11 hx hb dX6_make_37 rfl rfl ?_
    refine n_iald (D := D) (ca := ca) (v := (nI (((va_up ((va_up s 3 (regs (nxC S p)))) 4 (qn (nxC S p)))) (5 + p)))) hx hb hK.1 hP 1 (f := (rwN (va_up ((va_up s 3 (regs (nxC S p)))) 4 (qn (nxC S p))))) rfl (by omega) (by decide) rfl dX6_make_38 ?_
    refine lv_iconst (v := nI 1) hx hb dX6_make_39 (by decide) ?_
    refine n_iadd hx hb dX6_make_40 ?_
    refine n_iast (D := D) (ca := ca) hx hb hK.1 hP hD hS 1 (f := (rwN (va_up ((va_up s 3 (regs (nxC S p)))) 4 (qn (nxC S p))))) rfl (by omega) (by decide) dX6_make_41 (fun H locs hP hD hS => ?_)
    have hP : va_P D vwCl [(m, .inr (4, mF r (upd (upd (upd (upd g 8 (nI (regs (nxC S p)))) 9 (nI (qn (nxC S p)))) 10 ((-9))) 11 ((wrQ ((g 11)) (S 3) p (S 0) (S 2)))))), (r 1, .inl (ca 0, 38, .inl (upd (rwN (va_up ((va_up s 3 (regs (nxC S p)))) 4 (qn (nxC S p)))) (5 + p) (nI ((((va_up ((va_up s 3 (regs (nxC S p)))) 4 (qn (nxC S p)))) (5 + p)) + 1)))))] H := hP
    have hD : va_D A [(m, .inr (4, mF r (upd (upd (upd (upd g 8 (nI (regs (nxC S p)))) 9 (nI (qn (nxC S p)))) 10 ((-9))) 11 ((wrQ ((g 11)) (S 3) p (S 0) (S 2)))))), (r 1, .inl (ca 0, 38, .inl (upd (rwN (va_up ((va_up s 3 (regs (nxC S p)))) 4 (qn (nxC S p)))) (5 + p) (nI ((((va_up ((va_up s 3 (regs (nxC S p)))) 4 (qn (nxC S p)))) (5 + p)) + 1)))))] := hD
    rw [rwN_up] at hP hD
    refine lv_aload_n hx hb dX6_make_42 rfl (lv_at hl 1 rfl) ?_
    refine va_get (D := D) (ci := 4) (v := .int ((-9))) (C := RX6) (T := TX6) (N := 34) hx hb hts hinX60 hown hK.1 hP 0 rfl rfl 10 (by decide) (hts (.fieldLink RX6 74 "RenamingGridModel" "leftSplitter" "I") (List.mem_of_getElem? (i := 4) rfl)) (fun _ h9 => h9) rfl dX6_make_43 ?_
    refine lv_bipush (v := -9) hx hb dX6_make_46 (by decide) ?_
    refine lv_icmp_eq (tgt := 79) hx hb dX6_make_48 (by decide) (fun c48 => ?_) (fun c48 => absurd c48 (fun z => z rfl))
    refine lv_iload_n hx hb dX6_make_79 rfl (lv_at hl 0 rfl) ?_
    refine lv_iconst (v := nI 2) hx hb dX6_make_80 (by decide) ?_
    refine n_ic_eq (tgt := 89) hx hb dX6_make_81 (by decide) (by omega) (by decide) (fun c81 => absurd c81 (by omega)) (fun c81 => ?_)
    refine lv_iload_n hx hb dX6_make_84 rfl (lv_at hl 0 rfl) ?_
    refine lv_iconst (v := nI 3) hx hb dX6_make_85 (by decide) ?_
    refine n_ic_ne (tgt := 106) hx hb dX6_make_86 (by decide) (by omega) (by decide) (fun c86 => ?_) (fun c86 => absurd c86 (by omega))
    refine lv_iload_n hx hb dX6_make_106 rfl (lv_at hl 0 rfl) ?_
    exact uRetI hx hb hr hlocks hK hP hD hS ⟨rfl, by rw [lf_lt hlt, ← mk_1 hs hok hp3 hr0 hlt]⟩ (Nat.le_of_ble_eq_true rfl) (Nat.le_of_ble_eq_true rfl) dX6_make_107
  · by_cases hph : phC (S 3) p = 1
    · rw [lf_ge hge, wr_1 hge hph] at hP hD
      have hP : va_P D vwCl [(m, .inr (4, mF r (upd (upd (upd (upd g 8 (nI (regs (nxC S p)))) 9 (nI (qn (nxC S p)))) 10 (nI (spC (S 3) p))) 11 (nI 1)))), (r 1, .inl (ca 0, 38, .inl (rwN s)))] H := hP
      have hD : va_D A [(m, .inr (4, mF r (upd (upd (upd (upd g 8 (nI (regs (nxC S p)))) 9 (nI (qn (nxC S p)))) 10 (nI (spC (S 3) p))) 11 (nI 1)))), (r 1, .inl (ca 0, 38, .inl (rwN s)))] := hD
      refine lv_istore_n (lv' := [(2, .int (nI (advA S p))), (0, .ref m), (1, .int (nI p))]) hx hb dX6_make_9 rfl hl (by decide) rfl (fun ls hl => ?_)
      refine lv_aload_n hx hb dX6_make_10 rfl (lv_at hl 1 rfl) ?_
      refine va_get (D := D) (ci := 4) (v := .ref (r 1)) (C := RX6) (T := TX6) (N := 34) hx hb hts hinX60 hown hK.1 hP 0 rfl rfl 1 (by decide) (hts (.fieldLink RX6 7 "RenamingGridModel" "s" "[I") (List.mem_of_getElem? (i := 1) rfl)) (fun _ h9 => h9) rfl dX6_make_11 ?_
      refine lv_iconst (v := nI 3) hx hb dX6_make_14 (by decide) ?_
      refine lv_aload_n hx hb dX6_make_15 rfl (lv_at hl 1 rfl) ?_
      refine va_get (D := D) (ci := 4) (v := .int (nI (regs (nxC S p)))) (C := RX6) (T := TX6) (N := 34) hx hb hts hinX60 hown hK.1 hP 0 rfl rfl 8 (by decide) (hts (.fieldLink RX6 64 "RenamingGridModel" "registers" "I") (List.mem_of_getElem? (i := 2) rfl)) (fun _ h9 => h9) rfl dX6_make_16 ?_
      refine n_iast (D := D) (ca := ca) hx hb hK.1 hP hD hS 1 (f := (rwN s)) rfl (by omega) (by decide) dX6_make_19 (fun H locs hP hD hS => ?_)
      have hP : va_P D vwCl [(m, .inr (4, mF r (upd (upd (upd (upd g 8 (nI (regs (nxC S p)))) 9 (nI (qn (nxC S p)))) 10 (nI (spC (S 3) p))) 11 (nI 1)))), (r 1, .inl (ca 0, 38, .inl (upd (rwN s) 3 (nI (regs (nxC S p))))))] H := hP
      have hD : va_D A [(m, .inr (4, mF r (upd (upd (upd (upd g 8 (nI (regs (nxC S p)))) 9 (nI (qn (nxC S p)))) 10 (nI (spC (S 3) p))) 11 (nI 1)))), (r 1, .inl (ca 0, 38, .inl (upd (rwN s) 3 (nI (regs (nxC S p))))))] := hD
      rw [rwN_up] at hP hD
      refine lv_aload_n hx hb dX6_make_20 rfl (lv_at hl 1 rfl) ?_
      refine va_get (D := D) (ci := 4) (v := .ref (r 1)) (C := RX6) (T := TX6) (N := 34) hx hb hts hinX60 hown hK.1 hP 0 rfl rfl 1 (by decide) (hts (.fieldLink RX6 7 "RenamingGridModel" "s" "[I") (List.mem_of_getElem? (i := 1) rfl)) (fun _ h9 => h9) rfl dX6_make_21 ?_
      refine lv_iconst (v := nI 4) hx hb dX6_make_24 (by decide) ?_
      refine lv_aload_n hx hb dX6_make_25 rfl (lv_at hl 1 rfl) ?_
      refine va_get (D := D) (ci := 4) (v := .int (nI (qn (nxC S p)))) (C := RX6) (T := TX6) (N := 34) hx hb hts hinX60 hown hK.1 hP 0 rfl rfl 9 (by decide) (hts (.fieldLink RX6 61 "RenamingGridModel" "processes" "I") (List.mem_of_getElem? (i := 3) rfl)) (fun _ h9 => h9) rfl dX6_make_26 ?_
      refine n_iast (D := D) (ca := ca) hx hb hK.1 hP hD hS 1 (f := (rwN (va_up s 3 (regs (nxC S p))))) rfl (by omega) (by decide) dX6_make_29 (fun H locs hP hD hS => ?_)
      have hP : va_P D vwCl [(m, .inr (4, mF r (upd (upd (upd (upd g 8 (nI (regs (nxC S p)))) 9 (nI (qn (nxC S p)))) 10 (nI (spC (S 3) p))) 11 (nI 1)))), (r 1, .inl (ca 0, 38, .inl (upd (rwN (va_up s 3 (regs (nxC S p)))) 4 (nI (qn (nxC S p))))))] H := hP
      have hD : va_D A [(m, .inr (4, mF r (upd (upd (upd (upd g 8 (nI (regs (nxC S p)))) 9 (nI (qn (nxC S p)))) 10 (nI (spC (S 3) p))) 11 (nI 1)))), (r 1, .inl (ca 0, 38, .inl (upd (rwN (va_up s 3 (regs (nxC S p)))) 4 (nI (qn (nxC S p))))))] := hD
      rw [rwN_up] at hP hD
      refine lv_aload_n hx hb dX6_make_30 rfl (lv_at hl 1 rfl) ?_
      refine va_get (D := D) (ci := 4) (v := .ref (r 1)) (C := RX6) (T := TX6) (N := 34) hx hb hts hinX60 hown hK.1 hP 0 rfl rfl 1 (by decide) (hts (.fieldLink RX6 7 "RenamingGridModel" "s" "[I") (List.mem_of_getElem? (i := 1) rfl)) (fun _ h9 => h9) rfl dX6_make_31 ?_
      refine lv_iconst (v := nI 5) hx hb dX6_make_34 (by decide) ?_
      refine lv_iload_n hx hb dX6_make_35 rfl (lv_at hl 2 rfl) ?_
      refine n_iadd hx hb dX6_make_36 ?_
      refine lv_dup2_11 hx hb dX6_make_37 rfl rfl ?_
      refine n_iald (D := D) (ca := ca) (v := (nI (((va_up ((va_up s 3 (regs (nxC S p)))) 4 (qn (nxC S p)))) (5 + p)))) hx hb hK.1 hP 1 (f := (rwN (va_up ((va_up s 3 (regs (nxC S p)))) 4 (qn (nxC S p))))) rfl (by omega) (by decide) rfl dX6_make_38 ?_
      refine lv_iconst (v := nI 1) hx hb dX6_make_39 (by decide) ?_
      refine n_iadd hx hb dX6_make_40 ?_
      refine n_iast (D := D) (ca := ca) hx hb hK.1 hP hD hS 1 (f := (rwN (va_up ((va_up s 3 (regs (nxC S p)))) 4 (qn (nxC S p))))) rfl (by omega) (by decide) dX6_make_41 (fun H locs hP hD hS => ?_)
      have hP : va_P D vwCl [(m, .inr (4, mF r (upd (upd (upd (upd g 8 (nI (regs (nxC S p)))) 9 (nI (qn (nxC S p)))) 10 (nI (spC (S 3) p))) 11 (nI 1)))), (r 1, .inl (ca 0, 38, .inl (upd (rwN (va_up ((va_up s 3 (regs (nxC S p)))) 4 (qn (nxC S p)))) (5 + p) (nI ((((va_up ((va_up s 3 (regs (nxC S p)))) 4 (qn (nxC S p)))) (5 + p)) + 1)))))] H := hP
      have hD : va_D A [(m, .inr (4, mF r (upd (upd (upd (upd g 8 (nI (regs (nxC S p)))) 9 (nI (qn (nxC S p)))) 10 (nI (spC (S 3) p))) 11 (nI 1)))), (r 1, .inl (ca 0, 38, .inl (upd (rwN (va_up ((va_up s 3 (regs (nxC S p)))) 4 (qn (nxC S p)))) (5 + p) (nI ((((va_up ((va_up s 3 (regs (nxC S p)))) 4 (qn (nxC S p)))) (5 + p)) + 1)))))] := hD
      rw [rwN_up] at hP hD
      refine lv_aload_n hx hb dX6_make_42 rfl (lv_at hl 1 rfl) ?_
      refine va_get (D := D) (ci := 4) (v := .int (nI (spC (S 3) p))) (C := RX6) (T := TX6) (N := 34) hx hb hts hinX60 hown hK.1 hP 0 rfl rfl 10 (by decide) (hts (.fieldLink RX6 74 "RenamingGridModel" "leftSplitter" "I") (List.mem_of_getElem? (i := 4) rfl)) (fun _ h9 => h9) rfl dX6_make_43 ?_
      refine lv_bipush (v := -9) hx hb dX6_make_46 (by decide) ?_
      refine lv_icmp_eq (tgt := 79) hx hb dX6_make_48 (by decide) (fun c48 => absurd c48 (nI_ne9 (by omega))) (fun c48 => ?_)
      refine lv_aload_n hx hb dX6_make_51 rfl (lv_at hl 1 rfl) ?_
      refine va_get (D := D) (ci := 4) (v := .ref (r 1)) (C := RX6) (T := TX6) (N := 34) hx hb hts hinX60 hown hK.1 hP 0 rfl rfl 1 (by decide) (hts (.fieldLink RX6 7 "RenamingGridModel" "s" "[I") (List.mem_of_getElem? (i := 1) rfl)) (fun _ h9 => h9) rfl dX6_make_52 ?_
      refine lv_aload_n hx hb dX6_make_55 rfl (lv_at hl 1 rfl) ?_
      refine va_get (D := D) (ci := 4) (v := .int (nI 1)) (C := RX6) (T := TX6) (N := 34) hx hb hts hinX60 hown hK.1 hP 0 rfl rfl 11 (by decide) (hts (.fieldLink RX6 77 "RenamingGridModel" "wentRight" "Z") (List.mem_of_getElem? (i := 5) rfl)) (fun _ h9 => h9) rfl dX6_make_56 ?_
      refine n_if_eq (tgt := 67) hx hb dX6_make_59 (by decide) (by decide) (fun q => absurd q (by decide)) (fun _ => ?_)
      refine lv_bipush (v := nI 18) hx hb dX6_make_62 (by decide) ?_
      refine lv_goto (tgt := 69) hx hb dX6_make_64 (by decide) ?_
      refine lv_aload_n hx hb dX6_make_69 rfl (lv_at hl 1 rfl) ?_
      refine va_get (D := D) (ci := 4) (v := .int (nI (spC (S 3) p))) (C := RX6) (T := TX6) (N := 34) hx hb hts hinX60 hown hK.1 hP 0 rfl rfl 10 (by decide) (hts (.fieldLink RX6 74 "RenamingGridModel" "leftSplitter" "I") (List.mem_of_getElem? (i := 4) rfl)) (fun _ h9 => h9) rfl dX6_make_70 ?_
      refine n_iadd hx hb dX6_make_73 ?_
      refine lv_dup2_11 hx hb dX6_make_74 rfl rfl ?_
      refine n_iald (D := D) (ca := ca) (v := (nI (((va_up ((va_up ((va_up s 3 (regs (nxC S p)))) 4 (qn (nxC S p)))) (5 + p) ((((va_up ((va_up s 3 (regs (nxC S p)))) 4 (qn (nxC S p)))) (5 + p)) + 1))) (18 + (spC (S 3) p))))) hx hb hK.1 hP 1 (f := (rwN (va_up ((va_up ((va_up s 3 (regs (nxC S p)))) 4 (qn (nxC S p)))) (5 + p) ((((va_up ((va_up s 3 (regs (nxC S p)))) 4 (qn (nxC S p)))) (5 + p)) + 1)))) rfl (by omega) (by decide) rfl dX6_make_75 ?_
      refine lv_iconst (v := nI 1) hx hb dX6_make_76 (by decide) ?_
      refine n_iadd hx hb dX6_make_77 ?_
      refine n_iast (D := D) (ca := ca) hx hb hK.1 hP hD hS 1 (f := (rwN (va_up ((va_up ((va_up s 3 (regs (nxC S p)))) 4 (qn (nxC S p)))) (5 + p) ((((va_up ((va_up s 3 (regs (nxC S p)))) 4 (qn (nxC S p)))) (5 + p)) + 1)))) rfl (by omega) (by decide) dX6_make_78 (fun H locs hP hD hS => ?_)
      have hP : va_P D vwCl [(m, .inr (4, mF r (upd (upd (upd (upd g 8 (nI (regs (nxC S p)))) 9 (nI (qn (nxC S p)))) 10 (nI (spC (S 3) p))) 11 (nI 1)))), (r 1, .inl (ca 0, 38, .inl (upd (rwN (va_up ((va_up ((va_up s 3 (regs (nxC S p)))) 4 (qn (nxC S p)))) (5 + p) ((((va_up ((va_up s 3 (regs (nxC S p)))) 4 (qn (nxC S p)))) (5 + p)) + 1))) (18 + (spC (S 3) p)) (nI ((((va_up ((va_up ((va_up s 3 (regs (nxC S p)))) 4 (qn (nxC S p)))) (5 + p) ((((va_up ((va_up s 3 (regs (nxC S p)))) 4 (qn (nxC S p)))) (5 + p)) + 1))) (18 + (spC (S 3) p))) + 1)))))] H := hP
      have hD : va_D A [(m, .inr (4, mF r (upd (upd (upd (upd g 8 (nI (regs (nxC S p)))) 9 (nI (qn (nxC S p)))) 10 (nI (spC (S 3) p))) 11 (nI 1)))), (r 1, .inl (ca 0, 38, .inl (upd (rwN (va_up ((va_up ((va_up s 3 (regs (nxC S p)))) 4 (qn (nxC S p)))) (5 + p) ((((va_up ((va_up s 3 (regs (nxC S p)))) 4 (qn (nxC S p)))) (5 + p)) + 1))) (18 + (spC (S 3) p)) (nI ((((va_up ((va_up ((va_up s 3 (regs (nxC S p)))) 4 (qn (nxC S p)))) (5 + p) ((((va_up ((va_up s 3 (regs (nxC S p)))) 4 (qn (nxC S p)))) (5 + p)) + 1))) (18 + (spC (S 3) p))) + 1)))))] := hD
      rw [rwN_up] at hP hD
      refine lv_iload_n hx hb dX6_make_79 rfl (lv_at hl 0 rfl) ?_
      refine lv_iconst (v := nI 2) hx hb dX6_make_80 (by decide) ?_
      refine n_ic_eq (tgt := 89) hx hb dX6_make_81 (by decide) (by omega) (by decide) (fun c81 => ?_) (fun c81 => ?_)
      · have h23 : advA S p = 2 ∨ advA S p = 3 := by omega
        have hn10 : spC (nxC S p) p < 10 := pOK_sp (step_p (g := S 2) hp3 hok.1.1 hok.1.2 hr0 (hok.2.2.2.2.1 p hp3)).1
        refine lv_aload_n hx hb dX6_make_89 rfl (lv_at hl 1 rfl) ?_
        refine va_get (D := D) (ci := 4) (v := .ref (r 1)) (C := RX6) (T := TX6) (N := 34) hx hb hts hinX60 hown hK.1 hP 0 rfl rfl 1 (by decide) (hts (.fieldLink RX6 7 "RenamingGridModel" "s" "[I") (List.mem_of_getElem? (i := 1) rfl)) (fun _ h9 => h9) rfl dX6_make_90 ?_
        refine lv_bipush (v := nI 8) hx hb dX6_make_93 (by decide) ?_
        refine lv_aload_n hx hb dX6_make_95 rfl (lv_at hl 1 rfl) ?_
        refine lv_iload_n hx hb dX6_make_96 rfl (lv_at hl 2 rfl) ?_
        refine rdV (nL := 3) (ci := 4) (q0 := 0) (cq := (RX6, TX6, 34)) hx hb hml hown hts hK hP [.int (nI p)] [.int (nI 8), .ref (r 1)] (c_X6_splitterIn l D ca m r ((upd (upd (upd (upd g 8 (nI (regs (nxC S p)))) 9 (nI (qn (nxC S p)))) 10 (nI (spC (S 3) p))) 11 (nI 1))) (qn (nxC S p)) rfl (qn_lt _) p hp3) gX6_make_X6_splitterIn rfl ⟨rfl, qX6_splitterIn⟩ ⟨Nat.le_of_ble_eq_true rfl, Nat.le_of_ble_eq_true rfl⟩ rfl rfl [0] rfl rfl hl.1 (Nat.le_of_ble_eq_true rfl) ⟨Nat.le_of_ble_eq_true rfl, Nat.le_of_ble_eq_true rfl⟩ dX6_make_97 ?_
        rw [show (nI (gF (qn (nxC S p)) (8 * p + 2) 4)) = (nI (spC (nxC S p) p)) from (by rw [qn_sp hp3, if_neg (show stC (nxC S p) p ≠ 2 from sp_ne2 h23)])]
        refine n_iadd hx hb dX6_make_100 ?_
        refine lv_dup2_11 hx hb dX6_make_101 rfl rfl ?_
        refine n_iald (D := D) (ca := ca) (v := (nI (((va_up ((va_up ((va_up ((va_up s 3 (regs (nxC S p)))) 4 (qn (nxC S p)))) (5 + p) ((((va_up ((va_up s 3 (regs (nxC S p)))) 4 (qn (nxC S p)))) (5 + p)) + 1))) (18 + (spC (S 3) p)) ((((va_up ((va_up ((va_up s 3 (regs (nxC S p)))) 4 (qn (nxC S p)))) (5 + p) ((((va_up ((va_up s 3 (regs (nxC S p)))) 4 (qn (nxC S p)))) (5 + p)) + 1))) (18 + (spC (S 3) p))) + 1))) (8 + (spC (nxC S p) p))))) hx hb hK.1 hP 1 (f := (rwN (va_up ((va_up ((va_up ((va_up s 3 (regs (nxC S p)))) 4 (qn (nxC S p)))) (5 + p) ((((va_up ((va_up s 3 (regs (nxC S p)))) 4 (qn (nxC S p)))) (5 + p)) + 1))) (18 + (spC (S 3) p)) ((((va_up ((va_up ((va_up s 3 (regs (nxC S p)))) 4 (qn (nxC S p)))) (5 + p) ((((va_up ((va_up s 3 (regs (nxC S p)))) 4 (qn (nxC S p)))) (5 + p)) + 1))) (18 + (spC (S 3) p))) + 1)))) rfl (by omega) (by decide) rfl dX6_make_102 ?_
        refine lv_iconst (v := nI 1) hx hb dX6_make_103 (by decide) ?_
        refine n_iadd hx hb dX6_make_104 ?_
        refine n_iast (D := D) (ca := ca) hx hb hK.1 hP hD hS 1 (f := (rwN (va_up ((va_up ((va_up ((va_up s 3 (regs (nxC S p)))) 4 (qn (nxC S p)))) (5 + p) ((((va_up ((va_up s 3 (regs (nxC S p)))) 4 (qn (nxC S p)))) (5 + p)) + 1))) (18 + (spC (S 3) p)) ((((va_up ((va_up ((va_up s 3 (regs (nxC S p)))) 4 (qn (nxC S p)))) (5 + p) ((((va_up ((va_up s 3 (regs (nxC S p)))) 4 (qn (nxC S p)))) (5 + p)) + 1))) (18 + (spC (S 3) p))) + 1)))) rfl (by omega) (by decide) dX6_make_105 (fun H locs hP hD hS => ?_)
        have hP : va_P D vwCl [(m, .inr (4, mF r (upd (upd (upd (upd g 8 (nI (regs (nxC S p)))) 9 (nI (qn (nxC S p)))) 10 (nI (spC (S 3) p))) 11 (nI 1)))), (r 1, .inl (ca 0, 38, .inl (upd (rwN (va_up ((va_up ((va_up ((va_up s 3 (regs (nxC S p)))) 4 (qn (nxC S p)))) (5 + p) ((((va_up ((va_up s 3 (regs (nxC S p)))) 4 (qn (nxC S p)))) (5 + p)) + 1))) (18 + (spC (S 3) p)) ((((va_up ((va_up ((va_up s 3 (regs (nxC S p)))) 4 (qn (nxC S p)))) (5 + p) ((((va_up ((va_up s 3 (regs (nxC S p)))) 4 (qn (nxC S p)))) (5 + p)) + 1))) (18 + (spC (S 3) p))) + 1))) (8 + (spC (nxC S p) p)) (nI ((((va_up ((va_up ((va_up ((va_up s 3 (regs (nxC S p)))) 4 (qn (nxC S p)))) (5 + p) ((((va_up ((va_up s 3 (regs (nxC S p)))) 4 (qn (nxC S p)))) (5 + p)) + 1))) (18 + (spC (S 3) p)) ((((va_up ((va_up ((va_up s 3 (regs (nxC S p)))) 4 (qn (nxC S p)))) (5 + p) ((((va_up ((va_up s 3 (regs (nxC S p)))) 4 (qn (nxC S p)))) (5 + p)) + 1))) (18 + (spC (S 3) p))) + 1))) (8 + (spC (nxC S p) p))) + 1)))))] H := hP
        have hD : va_D A [(m, .inr (4, mF r (upd (upd (upd (upd g 8 (nI (regs (nxC S p)))) 9 (nI (qn (nxC S p)))) 10 (nI (spC (S 3) p))) 11 (nI 1)))), (r 1, .inl (ca 0, 38, .inl (upd (rwN (va_up ((va_up ((va_up ((va_up s 3 (regs (nxC S p)))) 4 (qn (nxC S p)))) (5 + p) ((((va_up ((va_up s 3 (regs (nxC S p)))) 4 (qn (nxC S p)))) (5 + p)) + 1))) (18 + (spC (S 3) p)) ((((va_up ((va_up ((va_up s 3 (regs (nxC S p)))) 4 (qn (nxC S p)))) (5 + p) ((((va_up ((va_up s 3 (regs (nxC S p)))) 4 (qn (nxC S p)))) (5 + p)) + 1))) (18 + (spC (S 3) p))) + 1))) (8 + (spC (nxC S p) p)) (nI ((((va_up ((va_up ((va_up ((va_up s 3 (regs (nxC S p)))) 4 (qn (nxC S p)))) (5 + p) ((((va_up ((va_up s 3 (regs (nxC S p)))) 4 (qn (nxC S p)))) (5 + p)) + 1))) (18 + (spC (S 3) p)) ((((va_up ((va_up ((va_up s 3 (regs (nxC S p)))) 4 (qn (nxC S p)))) (5 + p) ((((va_up ((va_up s 3 (regs (nxC S p)))) 4 (qn (nxC S p)))) (5 + p)) + 1))) (18 + (spC (S 3) p))) + 1))) (8 + (spC (nxC S p) p))) + 1)))))] := hD
        rw [rwN_up] at hP hD
        refine lv_iload_n hx hb dX6_make_106 rfl (lv_at hl 0 rfl) ?_
        exact uRetI hx hb hr hlocks hK hP hD hS ⟨rfl, by rw [lf_ge hge, wr_1 hge hph, ← mk_3 hs hok hp3 hr0 h23 (by rw [if_pos hph])]⟩ (Nat.le_of_ble_eq_true rfl) (Nat.le_of_ble_eq_true rfl) dX6_make_107
      · refine lv_iload_n hx hb dX6_make_84 rfl (lv_at hl 0 rfl) ?_
        refine lv_iconst (v := nI 3) hx hb dX6_make_85 (by decide) ?_
        refine n_ic_ne (tgt := 106) hx hb dX6_make_86 (by decide) (by omega) (by decide) (fun c86 => ?_) (fun c86 => ?_)
        · refine lv_iload_n hx hb dX6_make_106 rfl (lv_at hl 0 rfl) ?_
          exact uRetI hx hb hr hlocks hK hP hD hS ⟨rfl, by rw [lf_ge hge, wr_1 hge hph, ← mk_2 hs hok hp3 hr0 hge (fun z => by omega) (by rw [if_pos hph])]⟩ (Nat.le_of_ble_eq_true rfl) (Nat.le_of_ble_eq_true rfl) dX6_make_107
        · have h23 : advA S p = 2 ∨ advA S p = 3 := by omega
          have hn10 : spC (nxC S p) p < 10 := pOK_sp (step_p (g := S 2) hp3 hok.1.1 hok.1.2 hr0 (hok.2.2.2.2.1 p hp3)).1
          refine lv_aload_n hx hb dX6_make_89 rfl (lv_at hl 1 rfl) ?_
          refine va_get (D := D) (ci := 4) (v := .ref (r 1)) (C := RX6) (T := TX6) (N := 34) hx hb hts hinX60 hown hK.1 hP 0 rfl rfl 1 (by decide) (hts (.fieldLink RX6 7 "RenamingGridModel" "s" "[I") (List.mem_of_getElem? (i := 1) rfl)) (fun _ h9 => h9) rfl dX6_make_90 ?_
          refine lv_bipush (v := nI 8) hx hb dX6_make_93 (by decide) ?_
          refine lv_aload_n hx hb dX6_make_95 rfl (lv_at hl 1 rfl) ?_
          refine lv_iload_n hx hb dX6_make_96 rfl (lv_at hl 2 rfl) ?_
          refine rdV (nL := 3) (ci := 4) (q0 := 0) (cq := (RX6, TX6, 34)) hx hb hml hown hts hK hP [.int (nI p)] [.int (nI 8), .ref (r 1)] (c_X6_splitterIn l D ca m r ((upd (upd (upd (upd g 8 (nI (regs (nxC S p)))) 9 (nI (qn (nxC S p)))) 10 (nI (spC (S 3) p))) 11 (nI 1))) (qn (nxC S p)) rfl (qn_lt _) p hp3) gX6_make_X6_splitterIn rfl ⟨rfl, qX6_splitterIn⟩ ⟨Nat.le_of_ble_eq_true rfl, Nat.le_of_ble_eq_true rfl⟩ rfl rfl [0] rfl rfl hl.1 (Nat.le_of_ble_eq_true rfl) ⟨Nat.le_of_ble_eq_true rfl, Nat.le_of_ble_eq_true rfl⟩ dX6_make_97 ?_
          rw [show (nI (gF (qn (nxC S p)) (8 * p + 2) 4)) = (nI (spC (nxC S p) p)) from (by rw [qn_sp hp3, if_neg (show stC (nxC S p) p ≠ 2 from sp_ne2 h23)])]
          refine n_iadd hx hb dX6_make_100 ?_
          refine lv_dup2_11 hx hb dX6_make_101 rfl rfl ?_
          refine n_iald (D := D) (ca := ca) (v := (nI (((va_up ((va_up ((va_up ((va_up s 3 (regs (nxC S p)))) 4 (qn (nxC S p)))) (5 + p) ((((va_up ((va_up s 3 (regs (nxC S p)))) 4 (qn (nxC S p)))) (5 + p)) + 1))) (18 + (spC (S 3) p)) ((((va_up ((va_up ((va_up s 3 (regs (nxC S p)))) 4 (qn (nxC S p)))) (5 + p) ((((va_up ((va_up s 3 (regs (nxC S p)))) 4 (qn (nxC S p)))) (5 + p)) + 1))) (18 + (spC (S 3) p))) + 1))) (8 + (spC (nxC S p) p))))) hx hb hK.1 hP 1 (f := (rwN (va_up ((va_up ((va_up ((va_up s 3 (regs (nxC S p)))) 4 (qn (nxC S p)))) (5 + p) ((((va_up ((va_up s 3 (regs (nxC S p)))) 4 (qn (nxC S p)))) (5 + p)) + 1))) (18 + (spC (S 3) p)) ((((va_up ((va_up ((va_up s 3 (regs (nxC S p)))) 4 (qn (nxC S p)))) (5 + p) ((((va_up ((va_up s 3 (regs (nxC S p)))) 4 (qn (nxC S p)))) (5 + p)) + 1))) (18 + (spC (S 3) p))) + 1)))) rfl (by omega) (by decide) rfl dX6_make_102 ?_
          refine lv_iconst (v := nI 1) hx hb dX6_make_103 (by decide) ?_
          refine n_iadd hx hb dX6_make_104 ?_
          refine n_iast (D := D) (ca := ca) hx hb hK.1 hP hD hS 1 (f := (rwN (va_up ((va_up ((va_up ((va_up s 3 (regs (nxC S p)))) 4 (qn (nxC S p)))) (5 + p) ((((va_up ((va_up s 3 (regs (nxC S p)))) 4 (qn (nxC S p)))) (5 + p)) + 1))) (18 + (spC (S 3) p)) ((((va_up ((va_up ((va_up s 3 (regs (nxC S p)))) 4 (qn (nxC S p)))) (5 + p) ((((va_up ((va_up s 3 (regs (nxC S p)))) 4 (qn (nxC S p)))) (5 + p)) + 1))) (18 + (spC (S 3) p))) + 1)))) rfl (by omega) (by decide) dX6_make_105 (fun H locs hP hD hS => ?_)
          have hP : va_P D vwCl [(m, .inr (4, mF r (upd (upd (upd (upd g 8 (nI (regs (nxC S p)))) 9 (nI (qn (nxC S p)))) 10 (nI (spC (S 3) p))) 11 (nI 1)))), (r 1, .inl (ca 0, 38, .inl (upd (rwN (va_up ((va_up ((va_up ((va_up s 3 (regs (nxC S p)))) 4 (qn (nxC S p)))) (5 + p) ((((va_up ((va_up s 3 (regs (nxC S p)))) 4 (qn (nxC S p)))) (5 + p)) + 1))) (18 + (spC (S 3) p)) ((((va_up ((va_up ((va_up s 3 (regs (nxC S p)))) 4 (qn (nxC S p)))) (5 + p) ((((va_up ((va_up s 3 (regs (nxC S p)))) 4 (qn (nxC S p)))) (5 + p)) + 1))) (18 + (spC (S 3) p))) + 1))) (8 + (spC (nxC S p) p)) (nI ((((va_up ((va_up ((va_up ((va_up s 3 (regs (nxC S p)))) 4 (qn (nxC S p)))) (5 + p) ((((va_up ((va_up s 3 (regs (nxC S p)))) 4 (qn (nxC S p)))) (5 + p)) + 1))) (18 + (spC (S 3) p)) ((((va_up ((va_up ((va_up s 3 (regs (nxC S p)))) 4 (qn (nxC S p)))) (5 + p) ((((va_up ((va_up s 3 (regs (nxC S p)))) 4 (qn (nxC S p)))) (5 + p)) + 1))) (18 + (spC (S 3) p))) + 1))) (8 + (spC (nxC S p) p))) + 1)))))] H := hP
          have hD : va_D A [(m, .inr (4, mF r (upd (upd (upd (upd g 8 (nI (regs (nxC S p)))) 9 (nI (qn (nxC S p)))) 10 (nI (spC (S 3) p))) 11 (nI 1)))), (r 1, .inl (ca 0, 38, .inl (upd (rwN (va_up ((va_up ((va_up ((va_up s 3 (regs (nxC S p)))) 4 (qn (nxC S p)))) (5 + p) ((((va_up ((va_up s 3 (regs (nxC S p)))) 4 (qn (nxC S p)))) (5 + p)) + 1))) (18 + (spC (S 3) p)) ((((va_up ((va_up ((va_up s 3 (regs (nxC S p)))) 4 (qn (nxC S p)))) (5 + p) ((((va_up ((va_up s 3 (regs (nxC S p)))) 4 (qn (nxC S p)))) (5 + p)) + 1))) (18 + (spC (S 3) p))) + 1))) (8 + (spC (nxC S p) p)) (nI ((((va_up ((va_up ((va_up ((va_up s 3 (regs (nxC S p)))) 4 (qn (nxC S p)))) (5 + p) ((((va_up ((va_up s 3 (regs (nxC S p)))) 4 (qn (nxC S p)))) (5 + p)) + 1))) (18 + (spC (S 3) p)) ((((va_up ((va_up ((va_up s 3 (regs (nxC S p)))) 4 (qn (nxC S p)))) (5 + p) ((((va_up ((va_up s 3 (regs (nxC S p)))) 4 (qn (nxC S p)))) (5 + p)) + 1))) (18 + (spC (S 3) p))) + 1))) (8 + (spC (nxC S p) p))) + 1)))))] := hD
          rw [rwN_up] at hP hD
          refine lv_iload_n hx hb dX6_make_106 rfl (lv_at hl 0 rfl) ?_
          exact uRetI hx hb hr hlocks hK hP hD hS ⟨rfl, by rw [lf_ge hge, wr_1 hge hph, ← mk_3 hs hok hp3 hr0 h23 (by rw [if_pos hph])]⟩ (Nat.le_of_ble_eq_true rfl) (Nat.le_of_ble_eq_true rfl) dX6_make_107
    · rw [lf_ge hge, wr_0 hge hph] at hP hD
      have hP : va_P D vwCl [(m, .inr (4, mF r (upd (upd (upd (upd g 8 (nI (regs (nxC S p)))) 9 (nI (qn (nxC S p)))) 10 (nI (spC (S 3) p))) 11 (nI 0)))), (r 1, .inl (ca 0, 38, .inl (rwN s)))] H := hP
      have hD : va_D A [(m, .inr (4, mF r (upd (upd (upd (upd g 8 (nI (regs (nxC S p)))) 9 (nI (qn (nxC S p)))) 10 (nI (spC (S 3) p))) 11 (nI 0)))), (r 1, .inl (ca 0, 38, .inl (rwN s)))] := hD
      refine lv_istore_n (lv' := [(2, .int (nI (advA S p))), (0, .ref m), (1, .int (nI p))]) hx hb dX6_make_9 rfl hl (by decide) rfl (fun ls hl => ?_)
      refine lv_aload_n hx hb dX6_make_10 rfl (lv_at hl 1 rfl) ?_
      refine va_get (D := D) (ci := 4) (v := .ref (r 1)) (C := RX6) (T := TX6) (N := 34) hx hb hts hinX60 hown hK.1 hP 0 rfl rfl 1 (by decide) (hts (.fieldLink RX6 7 "RenamingGridModel" "s" "[I") (List.mem_of_getElem? (i := 1) rfl)) (fun _ h9 => h9) rfl dX6_make_11 ?_
      refine lv_iconst (v := nI 3) hx hb dX6_make_14 (by decide) ?_
      refine lv_aload_n hx hb dX6_make_15 rfl (lv_at hl 1 rfl) ?_
      refine va_get (D := D) (ci := 4) (v := .int (nI (regs (nxC S p)))) (C := RX6) (T := TX6) (N := 34) hx hb hts hinX60 hown hK.1 hP 0 rfl rfl 8 (by decide) (hts (.fieldLink RX6 64 "RenamingGridModel" "registers" "I") (List.mem_of_getElem? (i := 2) rfl)) (fun _ h9 => h9) rfl dX6_make_16 ?_
      refine n_iast (D := D) (ca := ca) hx hb hK.1 hP hD hS 1 (f := (rwN s)) rfl (by omega) (by decide) dX6_make_19 (fun H locs hP hD hS => ?_)
      have hP : va_P D vwCl [(m, .inr (4, mF r (upd (upd (upd (upd g 8 (nI (regs (nxC S p)))) 9 (nI (qn (nxC S p)))) 10 (nI (spC (S 3) p))) 11 (nI 0)))), (r 1, .inl (ca 0, 38, .inl (upd (rwN s) 3 (nI (regs (nxC S p))))))] H := hP
      have hD : va_D A [(m, .inr (4, mF r (upd (upd (upd (upd g 8 (nI (regs (nxC S p)))) 9 (nI (qn (nxC S p)))) 10 (nI (spC (S 3) p))) 11 (nI 0)))), (r 1, .inl (ca 0, 38, .inl (upd (rwN s) 3 (nI (regs (nxC S p))))))] := hD
      rw [rwN_up] at hP hD
      refine lv_aload_n hx hb dX6_make_20 rfl (lv_at hl 1 rfl) ?_
      refine va_get (D := D) (ci := 4) (v := .ref (r 1)) (C := RX6) (T := TX6) (N := 34) hx hb hts hinX60 hown hK.1 hP 0 rfl rfl 1 (by decide) (hts (.fieldLink RX6 7 "RenamingGridModel" "s" "[I") (List.mem_of_getElem? (i := 1) rfl)) (fun _ h9 => h9) rfl dX6_make_21 ?_
      refine lv_iconst (v := nI 4) hx hb dX6_make_24 (by decide) ?_
      refine lv_aload_n hx hb dX6_make_25 rfl (lv_at hl 1 rfl) ?_
      refine va_get (D := D) (ci := 4) (v := .int (nI (qn (nxC S p)))) (C := RX6) (T := TX6) (N := 34) hx hb hts hinX60 hown hK.1 hP 0 rfl rfl 9 (by decide) (hts (.fieldLink RX6 61 "RenamingGridModel" "processes" "I") (List.mem_of_getElem? (i := 3) rfl)) (fun _ h9 => h9) rfl dX6_make_26 ?_
      refine n_iast (D := D) (ca := ca) hx hb hK.1 hP hD hS 1 (f := (rwN (va_up s 3 (regs (nxC S p))))) rfl (by omega) (by decide) dX6_make_29 (fun H locs hP hD hS => ?_)
      have hP : va_P D vwCl [(m, .inr (4, mF r (upd (upd (upd (upd g 8 (nI (regs (nxC S p)))) 9 (nI (qn (nxC S p)))) 10 (nI (spC (S 3) p))) 11 (nI 0)))), (r 1, .inl (ca 0, 38, .inl (upd (rwN (va_up s 3 (regs (nxC S p)))) 4 (nI (qn (nxC S p))))))] H := hP
      have hD : va_D A [(m, .inr (4, mF r (upd (upd (upd (upd g 8 (nI (regs (nxC S p)))) 9 (nI (qn (nxC S p)))) 10 (nI (spC (S 3) p))) 11 (nI 0)))), (r 1, .inl (ca 0, 38, .inl (upd (rwN (va_up s 3 (regs (nxC S p)))) 4 (nI (qn (nxC S p))))))] := hD
      rw [rwN_up] at hP hD
      refine lv_aload_n hx hb dX6_make_30 rfl (lv_at hl 1 rfl) ?_
      refine va_get (D := D) (ci := 4) (v := .ref (r 1)) (C := RX6) (T := TX6) (N := 34) hx hb hts hinX60 hown hK.1 hP 0 rfl rfl 1 (by decide) (hts (.fieldLink RX6 7 "RenamingGridModel" "s" "[I") (List.mem_of_getElem? (i := 1) rfl)) (fun _ h9 => h9) rfl dX6_make_31 ?_
      refine lv_iconst (v := nI 5) hx hb dX6_make_34 (by decide) ?_
      refine lv_iload_n hx hb dX6_make_35 rfl (lv_at hl 2 rfl) ?_
      refine n_iadd hx hb dX6_make_36 ?_
      refine lv_dup2_11 hx hb dX6_make_37 rfl rfl ?_
      refine n_iald (D := D) (ca := ca) (v := (nI (((va_up ((va_up s 3 (regs (nxC S p)))) 4 (qn (nxC S p)))) (5 + p)))) hx hb hK.1 hP 1 (f := (rwN (va_up ((va_up s 3 (regs (nxC S p)))) 4 (qn (nxC S p))))) rfl (by omega) (by decide) rfl dX6_make_38 ?_
      refine lv_iconst (v := nI 1) hx hb dX6_make_39 (by decide) ?_
      refine n_iadd hx hb dX6_make_40 ?_
      refine n_iast (D := D) (ca := ca) hx hb hK.1 hP hD hS 1 (f := (rwN (va_up ((va_up s 3 (regs (nxC S p)))) 4 (qn (nxC S p))))) rfl (by omega) (by decide) dX6_make_41 (fun H locs hP hD hS => ?_)
      have hP : va_P D vwCl [(m, .inr (4, mF r (upd (upd (upd (upd g 8 (nI (regs (nxC S p)))) 9 (nI (qn (nxC S p)))) 10 (nI (spC (S 3) p))) 11 (nI 0)))), (r 1, .inl (ca 0, 38, .inl (upd (rwN (va_up ((va_up s 3 (regs (nxC S p)))) 4 (qn (nxC S p)))) (5 + p) (nI ((((va_up ((va_up s 3 (regs (nxC S p)))) 4 (qn (nxC S p)))) (5 + p)) + 1)))))] H := hP
      have hD : va_D A [(m, .inr (4, mF r (upd (upd (upd (upd g 8 (nI (regs (nxC S p)))) 9 (nI (qn (nxC S p)))) 10 (nI (spC (S 3) p))) 11 (nI 0)))), (r 1, .inl (ca 0, 38, .inl (upd (rwN (va_up ((va_up s 3 (regs (nxC S p)))) 4 (qn (nxC S p)))) (5 + p) (nI ((((va_up ((va_up s 3 (regs (nxC S p)))) 4 (qn (nxC S p)))) (5 + p)) + 1)))))] := hD
      rw [rwN_up] at hP hD
      refine lv_aload_n hx hb dX6_make_42 rfl (lv_at hl 1 rfl) ?_
      refine va_get (D := D) (ci := 4) (v := .int (nI (spC (S 3) p))) (C := RX6) (T := TX6) (N := 34) hx hb hts hinX60 hown hK.1 hP 0 rfl rfl 10 (by decide) (hts (.fieldLink RX6 74 "RenamingGridModel" "leftSplitter" "I") (List.mem_of_getElem? (i := 4) rfl)) (fun _ h9 => h9) rfl dX6_make_43 ?_
      refine lv_bipush (v := -9) hx hb dX6_make_46 (by decide) ?_
      refine lv_icmp_eq (tgt := 79) hx hb dX6_make_48 (by decide) (fun c48 => absurd c48 (nI_ne9 (by omega))) (fun c48 => ?_)
      refine lv_aload_n hx hb dX6_make_51 rfl (lv_at hl 1 rfl) ?_
      refine va_get (D := D) (ci := 4) (v := .ref (r 1)) (C := RX6) (T := TX6) (N := 34) hx hb hts hinX60 hown hK.1 hP 0 rfl rfl 1 (by decide) (hts (.fieldLink RX6 7 "RenamingGridModel" "s" "[I") (List.mem_of_getElem? (i := 1) rfl)) (fun _ h9 => h9) rfl dX6_make_52 ?_
      refine lv_aload_n hx hb dX6_make_55 rfl (lv_at hl 1 rfl) ?_
      refine va_get (D := D) (ci := 4) (v := .int (nI 0)) (C := RX6) (T := TX6) (N := 34) hx hb hts hinX60 hown hK.1 hP 0 rfl rfl 11 (by decide) (hts (.fieldLink RX6 77 "RenamingGridModel" "wentRight" "Z") (List.mem_of_getElem? (i := 5) rfl)) (fun _ h9 => h9) rfl dX6_make_56 ?_
      refine n_if_eq (tgt := 67) hx hb dX6_make_59 (by decide) (by decide) (fun _ => ?_) (fun q => absurd q (by decide))
      refine lv_bipush (v := nI 28) hx hb dX6_make_67 (by decide) ?_
      refine lv_aload_n hx hb dX6_make_69 rfl (lv_at hl 1 rfl) ?_
      refine va_get (D := D) (ci := 4) (v := .int (nI (spC (S 3) p))) (C := RX6) (T := TX6) (N := 34) hx hb hts hinX60 hown hK.1 hP 0 rfl rfl 10 (by decide) (hts (.fieldLink RX6 74 "RenamingGridModel" "leftSplitter" "I") (List.mem_of_getElem? (i := 4) rfl)) (fun _ h9 => h9) rfl dX6_make_70 ?_
      refine n_iadd hx hb dX6_make_73 ?_
      refine lv_dup2_11 hx hb dX6_make_74 rfl rfl ?_
      refine n_iald (D := D) (ca := ca) (v := (nI (((va_up ((va_up ((va_up s 3 (regs (nxC S p)))) 4 (qn (nxC S p)))) (5 + p) ((((va_up ((va_up s 3 (regs (nxC S p)))) 4 (qn (nxC S p)))) (5 + p)) + 1))) (28 + (spC (S 3) p))))) hx hb hK.1 hP 1 (f := (rwN (va_up ((va_up ((va_up s 3 (regs (nxC S p)))) 4 (qn (nxC S p)))) (5 + p) ((((va_up ((va_up s 3 (regs (nxC S p)))) 4 (qn (nxC S p)))) (5 + p)) + 1)))) rfl (by omega) (by decide) rfl dX6_make_75 ?_
      refine lv_iconst (v := nI 1) hx hb dX6_make_76 (by decide) ?_
      refine n_iadd hx hb dX6_make_77 ?_
      refine n_iast (D := D) (ca := ca) hx hb hK.1 hP hD hS 1 (f := (rwN (va_up ((va_up ((va_up s 3 (regs (nxC S p)))) 4 (qn (nxC S p)))) (5 + p) ((((va_up ((va_up s 3 (regs (nxC S p)))) 4 (qn (nxC S p)))) (5 + p)) + 1)))) rfl (by omega) (by decide) dX6_make_78 (fun H locs hP hD hS => ?_)
      have hP : va_P D vwCl [(m, .inr (4, mF r (upd (upd (upd (upd g 8 (nI (regs (nxC S p)))) 9 (nI (qn (nxC S p)))) 10 (nI (spC (S 3) p))) 11 (nI 0)))), (r 1, .inl (ca 0, 38, .inl (upd (rwN (va_up ((va_up ((va_up s 3 (regs (nxC S p)))) 4 (qn (nxC S p)))) (5 + p) ((((va_up ((va_up s 3 (regs (nxC S p)))) 4 (qn (nxC S p)))) (5 + p)) + 1))) (28 + (spC (S 3) p)) (nI ((((va_up ((va_up ((va_up s 3 (regs (nxC S p)))) 4 (qn (nxC S p)))) (5 + p) ((((va_up ((va_up s 3 (regs (nxC S p)))) 4 (qn (nxC S p)))) (5 + p)) + 1))) (28 + (spC (S 3) p))) + 1)))))] H := hP
      have hD : va_D A [(m, .inr (4, mF r (upd (upd (upd (upd g 8 (nI (regs (nxC S p)))) 9 (nI (qn (nxC S p)))) 10 (nI (spC (S 3) p))) 11 (nI 0)))), (r 1, .inl (ca 0, 38, .inl (upd (rwN (va_up ((va_up ((va_up s 3 (regs (nxC S p)))) 4 (qn (nxC S p)))) (5 + p) ((((va_up ((va_up s 3 (regs (nxC S p)))) 4 (qn (nxC S p)))) (5 + p)) + 1))) (28 + (spC (S 3) p)) (nI ((((va_up ((va_up ((va_up s 3 (regs (nxC S p)))) 4 (qn (nxC S p)))) (5 + p) ((((va_up ((va_up s 3 (regs (nxC S p)))) 4 (qn (nxC S p)))) (5 + p)) + 1))) (28 + (spC (S 3) p))) + 1)))))] := hD
      rw [rwN_up] at hP hD
      refine lv_iload_n hx hb dX6_make_79 rfl (lv_at hl 0 rfl) ?_
      refine lv_iconst (v := nI 2) hx hb dX6_make_80 (by decide) ?_
      refine n_ic_eq (tgt := 89) hx hb dX6_make_81 (by decide) (by omega) (by decide) (fun c81 => ?_) (fun c81 => ?_)
      · have h23 : advA S p = 2 ∨ advA S p = 3 := by omega
        have hn10 : spC (nxC S p) p < 10 := pOK_sp (step_p (g := S 2) hp3 hok.1.1 hok.1.2 hr0 (hok.2.2.2.2.1 p hp3)).1
        refine lv_aload_n hx hb dX6_make_89 rfl (lv_at hl 1 rfl) ?_
        refine va_get (D := D) (ci := 4) (v := .ref (r 1)) (C := RX6) (T := TX6) (N := 34) hx hb hts hinX60 hown hK.1 hP 0 rfl rfl 1 (by decide) (hts (.fieldLink RX6 7 "RenamingGridModel" "s" "[I") (List.mem_of_getElem? (i := 1) rfl)) (fun _ h9 => h9) rfl dX6_make_90 ?_
        refine lv_bipush (v := nI 8) hx hb dX6_make_93 (by decide) ?_
        refine lv_aload_n hx hb dX6_make_95 rfl (lv_at hl 1 rfl) ?_
        refine lv_iload_n hx hb dX6_make_96 rfl (lv_at hl 2 rfl) ?_
        refine rdV (nL := 3) (ci := 4) (q0 := 0) (cq := (RX6, TX6, 34)) hx hb hml hown hts hK hP [.int (nI p)] [.int (nI 8), .ref (r 1)] (c_X6_splitterIn l D ca m r ((upd (upd (upd (upd g 8 (nI (regs (nxC S p)))) 9 (nI (qn (nxC S p)))) 10 (nI (spC (S 3) p))) 11 (nI 0))) (qn (nxC S p)) rfl (qn_lt _) p hp3) gX6_make_X6_splitterIn rfl ⟨rfl, qX6_splitterIn⟩ ⟨Nat.le_of_ble_eq_true rfl, Nat.le_of_ble_eq_true rfl⟩ rfl rfl [0] rfl rfl hl.1 (Nat.le_of_ble_eq_true rfl) ⟨Nat.le_of_ble_eq_true rfl, Nat.le_of_ble_eq_true rfl⟩ dX6_make_97 ?_
        rw [show (nI (gF (qn (nxC S p)) (8 * p + 2) 4)) = (nI (spC (nxC S p) p)) from (by rw [qn_sp hp3, if_neg (show stC (nxC S p) p ≠ 2 from sp_ne2 h23)])]
        refine n_iadd hx hb dX6_make_100 ?_
        refine lv_dup2_11 hx hb dX6_make_101 rfl rfl ?_
        refine n_iald (D := D) (ca := ca) (v := (nI (((va_up ((va_up ((va_up ((va_up s 3 (regs (nxC S p)))) 4 (qn (nxC S p)))) (5 + p) ((((va_up ((va_up s 3 (regs (nxC S p)))) 4 (qn (nxC S p)))) (5 + p)) + 1))) (28 + (spC (S 3) p)) ((((va_up ((va_up ((va_up s 3 (regs (nxC S p)))) 4 (qn (nxC S p)))) (5 + p) ((((va_up ((va_up s 3 (regs (nxC S p)))) 4 (qn (nxC S p)))) (5 + p)) + 1))) (28 + (spC (S 3) p))) + 1))) (8 + (spC (nxC S p) p))))) hx hb hK.1 hP 1 (f := (rwN (va_up ((va_up ((va_up ((va_up s 3 (regs (nxC S p)))) 4 (qn (nxC S p)))) (5 + p) ((((va_up ((va_up s 3 (regs (nxC S p)))) 4 (qn (nxC S p)))) (5 + p)) + 1))) (28 + (spC (S 3) p)) ((((va_up ((va_up ((va_up s 3 (regs (nxC S p)))) 4 (qn (nxC S p)))) (5 + p) ((((va_up ((va_up s 3 (regs (nxC S p)))) 4 (qn (nxC S p)))) (5 + p)) + 1))) (28 + (spC (S 3) p))) + 1)))) rfl (by omega) (by decide) rfl dX6_make_102 ?_
        refine lv_iconst (v := nI 1) hx hb dX6_make_103 (by decide) ?_
        refine n_iadd hx hb dX6_make_104 ?_
        refine n_iast (D := D) (ca := ca) hx hb hK.1 hP hD hS 1 (f := (rwN (va_up ((va_up ((va_up ((va_up s 3 (regs (nxC S p)))) 4 (qn (nxC S p)))) (5 + p) ((((va_up ((va_up s 3 (regs (nxC S p)))) 4 (qn (nxC S p)))) (5 + p)) + 1))) (28 + (spC (S 3) p)) ((((va_up ((va_up ((va_up s 3 (regs (nxC S p)))) 4 (qn (nxC S p)))) (5 + p) ((((va_up ((va_up s 3 (regs (nxC S p)))) 4 (qn (nxC S p)))) (5 + p)) + 1))) (28 + (spC (S 3) p))) + 1)))) rfl (by omega) (by decide) dX6_make_105 (fun H locs hP hD hS => ?_)
        have hP : va_P D vwCl [(m, .inr (4, mF r (upd (upd (upd (upd g 8 (nI (regs (nxC S p)))) 9 (nI (qn (nxC S p)))) 10 (nI (spC (S 3) p))) 11 (nI 0)))), (r 1, .inl (ca 0, 38, .inl (upd (rwN (va_up ((va_up ((va_up ((va_up s 3 (regs (nxC S p)))) 4 (qn (nxC S p)))) (5 + p) ((((va_up ((va_up s 3 (regs (nxC S p)))) 4 (qn (nxC S p)))) (5 + p)) + 1))) (28 + (spC (S 3) p)) ((((va_up ((va_up ((va_up s 3 (regs (nxC S p)))) 4 (qn (nxC S p)))) (5 + p) ((((va_up ((va_up s 3 (regs (nxC S p)))) 4 (qn (nxC S p)))) (5 + p)) + 1))) (28 + (spC (S 3) p))) + 1))) (8 + (spC (nxC S p) p)) (nI ((((va_up ((va_up ((va_up ((va_up s 3 (regs (nxC S p)))) 4 (qn (nxC S p)))) (5 + p) ((((va_up ((va_up s 3 (regs (nxC S p)))) 4 (qn (nxC S p)))) (5 + p)) + 1))) (28 + (spC (S 3) p)) ((((va_up ((va_up ((va_up s 3 (regs (nxC S p)))) 4 (qn (nxC S p)))) (5 + p) ((((va_up ((va_up s 3 (regs (nxC S p)))) 4 (qn (nxC S p)))) (5 + p)) + 1))) (28 + (spC (S 3) p))) + 1))) (8 + (spC (nxC S p) p))) + 1)))))] H := hP
        have hD : va_D A [(m, .inr (4, mF r (upd (upd (upd (upd g 8 (nI (regs (nxC S p)))) 9 (nI (qn (nxC S p)))) 10 (nI (spC (S 3) p))) 11 (nI 0)))), (r 1, .inl (ca 0, 38, .inl (upd (rwN (va_up ((va_up ((va_up ((va_up s 3 (regs (nxC S p)))) 4 (qn (nxC S p)))) (5 + p) ((((va_up ((va_up s 3 (regs (nxC S p)))) 4 (qn (nxC S p)))) (5 + p)) + 1))) (28 + (spC (S 3) p)) ((((va_up ((va_up ((va_up s 3 (regs (nxC S p)))) 4 (qn (nxC S p)))) (5 + p) ((((va_up ((va_up s 3 (regs (nxC S p)))) 4 (qn (nxC S p)))) (5 + p)) + 1))) (28 + (spC (S 3) p))) + 1))) (8 + (spC (nxC S p) p)) (nI ((((va_up ((va_up ((va_up ((va_up s 3 (regs (nxC S p)))) 4 (qn (nxC S p)))) (5 + p) ((((va_up ((va_up s 3 (regs (nxC S p)))) 4 (qn (nxC S p)))) (5 + p)) + 1))) (28 + (spC (S 3) p)) ((((va_up ((va_up ((va_up s 3 (regs (nxC S p)))) 4 (qn (nxC S p)))) (5 + p) ((((va_up ((va_up s 3 (regs (nxC S p)))) 4 (qn (nxC S p)))) (5 + p)) + 1))) (28 + (spC (S 3) p))) + 1))) (8 + (spC (nxC S p) p))) + 1)))))] := hD
        rw [rwN_up] at hP hD
        refine lv_iload_n hx hb dX6_make_106 rfl (lv_at hl 0 rfl) ?_
        exact uRetI hx hb hr hlocks hK hP hD hS ⟨rfl, by rw [lf_ge hge, wr_0 hge hph, ← mk_3 hs hok hp3 hr0 h23 (by rw [if_neg hph])]⟩ (Nat.le_of_ble_eq_true rfl) (Nat.le_of_ble_eq_true rfl) dX6_make_107
      · refine lv_iload_n hx hb dX6_make_84 rfl (lv_at hl 0 rfl) ?_
        refine lv_iconst (v := nI 3) hx hb dX6_make_85 (by decide) ?_
        refine n_ic_ne (tgt := 106) hx hb dX6_make_86 (by decide) (by omega) (by decide) (fun c86 => ?_) (fun c86 => ?_)
        · refine lv_iload_n hx hb dX6_make_106 rfl (lv_at hl 0 rfl) ?_
          exact uRetI hx hb hr hlocks hK hP hD hS ⟨rfl, by rw [lf_ge hge, wr_0 hge hph, ← mk_2 hs hok hp3 hr0 hge (fun z => by omega) (by rw [if_neg hph])]⟩ (Nat.le_of_ble_eq_true rfl) (Nat.le_of_ble_eq_true rfl) dX6_make_107
        · have h23 : advA S p = 2 ∨ advA S p = 3 := by omega
          have hn10 : spC (nxC S p) p < 10 := pOK_sp (step_p (g := S 2) hp3 hok.1.1 hok.1.2 hr0 (hok.2.2.2.2.1 p hp3)).1
          refine lv_aload_n hx hb dX6_make_89 rfl (lv_at hl 1 rfl) ?_
          refine va_get (D := D) (ci := 4) (v := .ref (r 1)) (C := RX6) (T := TX6) (N := 34) hx hb hts hinX60 hown hK.1 hP 0 rfl rfl 1 (by decide) (hts (.fieldLink RX6 7 "RenamingGridModel" "s" "[I") (List.mem_of_getElem? (i := 1) rfl)) (fun _ h9 => h9) rfl dX6_make_90 ?_
          refine lv_bipush (v := nI 8) hx hb dX6_make_93 (by decide) ?_
          refine lv_aload_n hx hb dX6_make_95 rfl (lv_at hl 1 rfl) ?_
          refine lv_iload_n hx hb dX6_make_96 rfl (lv_at hl 2 rfl) ?_
          refine rdV (nL := 3) (ci := 4) (q0 := 0) (cq := (RX6, TX6, 34)) hx hb hml hown hts hK hP [.int (nI p)] [.int (nI 8), .ref (r 1)] (c_X6_splitterIn l D ca m r ((upd (upd (upd (upd g 8 (nI (regs (nxC S p)))) 9 (nI (qn (nxC S p)))) 10 (nI (spC (S 3) p))) 11 (nI 0))) (qn (nxC S p)) rfl (qn_lt _) p hp3) gX6_make_X6_splitterIn rfl ⟨rfl, qX6_splitterIn⟩ ⟨Nat.le_of_ble_eq_true rfl, Nat.le_of_ble_eq_true rfl⟩ rfl rfl [0] rfl rfl hl.1 (Nat.le_of_ble_eq_true rfl) ⟨Nat.le_of_ble_eq_true rfl, Nat.le_of_ble_eq_true rfl⟩ dX6_make_97 ?_
          rw [show (nI (gF (qn (nxC S p)) (8 * p + 2) 4)) = (nI (spC (nxC S p) p)) from (by rw [qn_sp hp3, if_neg (show stC (nxC S p) p ≠ 2 from sp_ne2 h23)])]
          refine n_iadd hx hb dX6_make_100 ?_
          refine lv_dup2_11 hx hb dX6_make_101 rfl rfl ?_
          refine n_iald (D := D) (ca := ca) (v := (nI (((va_up ((va_up ((va_up ((va_up s 3 (regs (nxC S p)))) 4 (qn (nxC S p)))) (5 + p) ((((va_up ((va_up s 3 (regs (nxC S p)))) 4 (qn (nxC S p)))) (5 + p)) + 1))) (28 + (spC (S 3) p)) ((((va_up ((va_up ((va_up s 3 (regs (nxC S p)))) 4 (qn (nxC S p)))) (5 + p) ((((va_up ((va_up s 3 (regs (nxC S p)))) 4 (qn (nxC S p)))) (5 + p)) + 1))) (28 + (spC (S 3) p))) + 1))) (8 + (spC (nxC S p) p))))) hx hb hK.1 hP 1 (f := (rwN (va_up ((va_up ((va_up ((va_up s 3 (regs (nxC S p)))) 4 (qn (nxC S p)))) (5 + p) ((((va_up ((va_up s 3 (regs (nxC S p)))) 4 (qn (nxC S p)))) (5 + p)) + 1))) (28 + (spC (S 3) p)) ((((va_up ((va_up ((va_up s 3 (regs (nxC S p)))) 4 (qn (nxC S p)))) (5 + p) ((((va_up ((va_up s 3 (regs (nxC S p)))) 4 (qn (nxC S p)))) (5 + p)) + 1))) (28 + (spC (S 3) p))) + 1)))) rfl (by omega) (by decide) rfl dX6_make_102 ?_
          refine lv_iconst (v := nI 1) hx hb dX6_make_103 (by decide) ?_
          refine n_iadd hx hb dX6_make_104 ?_
          refine n_iast (D := D) (ca := ca) hx hb hK.1 hP hD hS 1 (f := (rwN (va_up ((va_up ((va_up ((va_up s 3 (regs (nxC S p)))) 4 (qn (nxC S p)))) (5 + p) ((((va_up ((va_up s 3 (regs (nxC S p)))) 4 (qn (nxC S p)))) (5 + p)) + 1))) (28 + (spC (S 3) p)) ((((va_up ((va_up ((va_up s 3 (regs (nxC S p)))) 4 (qn (nxC S p)))) (5 + p) ((((va_up ((va_up s 3 (regs (nxC S p)))) 4 (qn (nxC S p)))) (5 + p)) + 1))) (28 + (spC (S 3) p))) + 1)))) rfl (by omega) (by decide) dX6_make_105 (fun H locs hP hD hS => ?_)
          have hP : va_P D vwCl [(m, .inr (4, mF r (upd (upd (upd (upd g 8 (nI (regs (nxC S p)))) 9 (nI (qn (nxC S p)))) 10 (nI (spC (S 3) p))) 11 (nI 0)))), (r 1, .inl (ca 0, 38, .inl (upd (rwN (va_up ((va_up ((va_up ((va_up s 3 (regs (nxC S p)))) 4 (qn (nxC S p)))) (5 + p) ((((va_up ((va_up s 3 (regs (nxC S p)))) 4 (qn (nxC S p)))) (5 + p)) + 1))) (28 + (spC (S 3) p)) ((((va_up ((va_up ((va_up s 3 (regs (nxC S p)))) 4 (qn (nxC S p)))) (5 + p) ((((va_up ((va_up s 3 (regs (nxC S p)))) 4 (qn (nxC S p)))) (5 + p)) + 1))) (28 + (spC (S 3) p))) + 1))) (8 + (spC (nxC S p) p)) (nI ((((va_up ((va_up ((va_up ((va_up s 3 (regs (nxC S p)))) 4 (qn (nxC S p)))) (5 + p) ((((va_up ((va_up s 3 (regs (nxC S p)))) 4 (qn (nxC S p)))) (5 + p)) + 1))) (28 + (spC (S 3) p)) ((((va_up ((va_up ((va_up s 3 (regs (nxC S p)))) 4 (qn (nxC S p)))) (5 + p) ((((va_up ((va_up s 3 (regs (nxC S p)))) 4 (qn (nxC S p)))) (5 + p)) + 1))) (28 + (spC (S 3) p))) + 1))) (8 + (spC (nxC S p) p))) + 1)))))] H := hP
          have hD : va_D A [(m, .inr (4, mF r (upd (upd (upd (upd g 8 (nI (regs (nxC S p)))) 9 (nI (qn (nxC S p)))) 10 (nI (spC (S 3) p))) 11 (nI 0)))), (r 1, .inl (ca 0, 38, .inl (upd (rwN (va_up ((va_up ((va_up ((va_up s 3 (regs (nxC S p)))) 4 (qn (nxC S p)))) (5 + p) ((((va_up ((va_up s 3 (regs (nxC S p)))) 4 (qn (nxC S p)))) (5 + p)) + 1))) (28 + (spC (S 3) p)) ((((va_up ((va_up ((va_up s 3 (regs (nxC S p)))) 4 (qn (nxC S p)))) (5 + p) ((((va_up ((va_up s 3 (regs (nxC S p)))) 4 (qn (nxC S p)))) (5 + p)) + 1))) (28 + (spC (S 3) p))) + 1))) (8 + (spC (nxC S p) p)) (nI ((((va_up ((va_up ((va_up ((va_up s 3 (regs (nxC S p)))) 4 (qn (nxC S p)))) (5 + p) ((((va_up ((va_up s 3 (regs (nxC S p)))) 4 (qn (nxC S p)))) (5 + p)) + 1))) (28 + (spC (S 3) p)) ((((va_up ((va_up ((va_up s 3 (regs (nxC S p)))) 4 (qn (nxC S p)))) (5 + p) ((((va_up ((va_up s 3 (regs (nxC S p)))) 4 (qn (nxC S p)))) (5 + p)) + 1))) (28 + (spC (S 3) p))) + 1))) (8 + (spC (nxC S p) p))) + 1)))))] := hD
          rw [rwN_up] at hP hD
          refine lv_iload_n hx hb dX6_make_106 rfl (lv_at hl 0 rfl) ?_
          exact uRetI hx hb hr hlocks hK hP hD hS ⟨rfl, by rw [lf_ge hge, wr_0 hge hph, ← mk_3 hs hok hp3 hr0 h23 (by rw [if_neg hph])]⟩ (Nat.le_of_ble_eq_true rfl) (Nat.le_of_ble_eq_true rfl) dX6_make_107

set_option maxHeartbeats 4000000 in
set_option maxRecDepth 100000 in
theorem c_X6_execute (l : Launch) (D : va_G) (ca : Nat → ClassId) (m : Nat) (r : Nat → Nat) (g : Nat → Int32) (s S : Nat → Nat) (hs : MR s S) (hok : SOK S) (p k : Nat) (hp : p < S 1) (hk : k < 2 ^ 30) : UP l D ca yX6_execute wsX6_execute 4 93 0 0 [(m, .inr (4, mF r g)), (r 1, .inl (ca 0, 38, .inl (rwN s)))] [.ref m, .int (nI p), .int (nI k)] (fun v W1 => v = some (.int (nI (runN k S p))) ∧ ∃ (s2 : Nat → Nat) (x y : Int32), MR s2 (runS k S p) ∧ W1 = [(m, .inr (4, mF r (upd (upd (upd (upd g 8 (nI (regs ((runS k S p) 3)))) 9 (nI (qn ((runS k S p) 3)))) 10 x) 11 y))), (r 1, .inl (ca 0, 38, .inl (rwN s2)))]) := by
  refine UP.start (cc := cX6_execute) (maxL := 4) (ret := (some .int)) (by decide) rfl (Nat.le_of_ble_eq_true rfl) ?_
  intro p_ e_ s_ m_ below_ meth_ c_ A hx hb hml hr hlocks hin hown hts hK hA hP hD hS ls hl
  have hown : s_.vm.findClass RX6 = some m_.cls := hown
  have hl : lv_has ls 4 [(0, .ref m), (1, .int (nI p)), (2, .int (nI k))] := hl
  have hinX60 : ∀ w ∈ wsX60, w ∈ wsX6_execute := fun w h => List.mem_cons_of_mem _ (List.mem_append_right _ h)
  have hp3 : p < 3 := by have := hok.2.1; omega
  refine lv_iconst (v := nI 0) hx hb dX6_execute_0 (by decide) ?_
  refine lv_istore_n (lv' := [(3, .int (nI 0)), (0, .ref m), (1, .int (nI p)), (2, .int (nI k))]) hx hb dX6_execute_1 rfl hl (by decide) rfl (fun ls hl => ?_)
  refine lv_aload_n hx hb dX6_execute_2 rfl (lv_at hl 1 rfl) ?_
  refine uV (nL := 4) (wr := []) (ci := 4) (q0 := 0) (cq := (RX6, TX6, 34)) hx hb hml hown hts hK hA hP hD hS [] [] (c_X6_take l D ca m r g s S hs) gX6_execute_X6_take rfl ⟨rfl, qX6_take⟩ ⟨Nat.le_of_ble_eq_true rfl, Nat.le_of_ble_eq_true rfl⟩ rfl rfl [0, 1] [] rfl rfl (by decide) (by decide) rfl hl.1 (Nat.le_of_ble_eq_true rfl) ⟨Nat.le_of_ble_eq_true rfl, Nat.le_of_ble_eq_true rfl⟩ dX6_execute_3 (oneK (wsN := [(m, .inr (4, mF r (upd (upd g 8 (nI (regs (S 3)))) 9 (nI (qn (S 3)))))), (r 1, .inl (ca 0, 38, .inl (rwN s)))]) [0, 1] (by decide) rfl (st1 := []) rfl 0 0 rfl rfl (fun H locs hP hD hS => ?_))
  have loop6 : ∀ (N_ : Nat) (i : Nat) (s1 : Nat → Nat) (S1 : Nat → Nat) (x : Int32) (y : Int32) (hi : i ≤ k) (hs1 : MR s1 S1) (hok1 : SOK S1) (hS1 : S1 1 = S 1) (hn : i + runN (k - i) S1 p = runN k S p) (hSr : runS (k - i) S1 p = runS k S p) (hf : k - i < N_), ∀ (H : Heap) (locs : List Loc), va_P D vwCl [(m, .inr (4, mF r (upd (upd (upd (upd g 8 (nI (regs (S1 3)))) 9 (nI (qn (S1 3)))) 10 x) 11 y))), (r 1, .inl (ca 0, 38, .inl (rwN s1)))] H → va_D A [(m, .inr (4, mF r (upd (upd (upd (upd g 8 (nI (regs (S1 3)))) 9 (nI (qn (S1 3)))) 10 x) 11 y))), (r 1, .inl (ca 0, 38, .inl (rwN s1)))] → va_S A s_.heap H locs → ∀ (ls : Array Slot), lv_has ls 4 [(3, .int (nI i)), (0, .ref m), (1, .int (nI p)), (2, .int (nI k))] → W p_ l e_ ({ frames := 4, cells := 0, slots := 0, locals := 93 }) s_ m_ ([.ref m, .int (nI p), .int (nI k)]).toArray below_ meth_ c_ H locs 0 0 (MQ below_ (uQA D ca A (fun v W1 => v = some (.int (nI (runN k S p))) ∧ ∃ (s2 : Nat → Nat) (x y : Int32), MR s2 (runS k S p) ∧ W1 = [(m, .inr (4, mF r (upd (upd (upd (upd g 8 (nI (regs ((runS k S p) 3)))) 9 (nI (qn ((runS k S p) 3)))) 10 x) 11 y))), (r 1, .inl (ca 0, 38, .inl (rwN s2)))])) ([.ref m, .int (nI p), .int (nI k)]).toArray s_ 0 0 A) (F0 m_ 6 ls []) := by
    intro N_
    induction N_ with
    | zero => intro i s1 S1 x y hi hs1 hok1 hS1 hn hSr hf; exfalso; omega
    | succ N_ ih6 =>
      intro i s1 S1 x y hi hs1 hok1 hS1 hn hSr hf H locs hP hD hS ls hl
      refine lv_iload_n hx hb dX6_execute_6 rfl (lv_at hl 0 rfl) ?_
      refine lv_iload_n hx hb dX6_execute_7 rfl (lv_at hl 3 rfl) ?_
      refine n_ic_ge (tgt := 31) hx hb dX6_execute_8 (by decide) (by omega) (by omega) (fun c8 => ?_) (fun c8 => ?_)
      · refine lv_iload_n hx hb dX6_execute_31 rfl (lv_at hl 0 rfl) ?_
        exact uRetI hx hb hr hlocks hK hP hD hS ⟨by rw [← hn, show k - i = 0 by omega]; rfl, s1, x, y, by rw [← hSr, show k - i = 0 by omega]; exact hs1, by rw [← hSr, show k - i = 0 by omega]; rfl⟩ (Nat.le_of_ble_eq_true rfl) (Nat.le_of_ble_eq_true rfl) dX6_execute_32
      · refine lv_aload_n hx hb dX6_execute_11 rfl (lv_at hl 1 rfl) ?_
        refine lv_iload_n hx hb dX6_execute_12 rfl (lv_at hl 2 rfl) ?_
        refine rdV (nL := 4) (ci := 4) (q0 := 0) (cq := (RX6, TX6, 34)) hx hb hml hown hts hK hP [.int (nI p)] [] (c_X6_statusIn l D ca m r ((upd (upd (upd (upd g 8 (nI (regs (S1 3)))) 9 (nI (qn (S1 3)))) 10 x) 11 y)) (qn (S1 3)) rfl (qn_lt _) p hp3) gX6_execute_X6_statusIn rfl ⟨rfl, qX6_statusIn⟩ ⟨Nat.le_of_ble_eq_true rfl, Nat.le_of_ble_eq_true rfl⟩ rfl rfl [0] rfl rfl hl.1 (Nat.le_of_ble_eq_true rfl) ⟨Nat.le_of_ble_eq_true rfl, Nat.le_of_ble_eq_true rfl⟩ dX6_execute_13 ?_
        rw [show (nI (gF (qn (S1 3)) (8 * p) 2)) = (nI (stC (S1 3) p)) from (by rw [qn_st hp3])]
        refine n_if_ne (tgt := 31) hx hb dX6_execute_16 (by decide) (stC_b _ _) (fun c16 => ?_) (fun c16 => ?_)
        · refine lv_iload_n hx hb dX6_execute_31 rfl (lv_at hl 0 rfl) ?_
          exact uRetI hx hb hr hlocks hK hP hD hS ⟨by rw [← hn, runN_stop c16, Nat.add_zero], s1, x, y, by rw [← hSr, runS_stop c16]; exact hs1, by rw [← hSr, runS_stop c16]⟩ (Nat.le_of_ble_eq_true rfl) (Nat.le_of_ble_eq_true rfl) dX6_execute_32
        · refine lv_aload_n hx hb dX6_execute_19 rfl (lv_at hl 1 rfl) ?_
          refine lv_iload_n hx hb dX6_execute_20 rfl (lv_at hl 2 rfl) ?_
          refine uV (nL := 4) (wr := []) (ci := 4) (q0 := 0) (cq := (RX6, TX6, 34)) hx hb hml hown hts hK hA hP hD hS [.int (nI p)] [] (c_X6_make l D ca m r ((upd (upd (upd (upd g 8 (nI (regs (S1 3)))) 9 (nI (qn (S1 3)))) 10 x) 11 y)) s1 S1 hs1 hok1 p (by rw [hS1]; exact hp) c16) gX6_execute_X6_make rfl ⟨rfl, qX6_make⟩ ⟨Nat.le_of_ble_eq_true rfl, Nat.le_of_ble_eq_true rfl⟩ rfl rfl [0, 1] [] rfl rfl (by decide) (by decide) rfl hl.1 (Nat.le_of_ble_eq_true rfl) ⟨Nat.le_of_ble_eq_true rfl, Nat.le_of_ble_eq_true rfl⟩ dX6_execute_21 (oneK (wsN := [(m, .inr (4, mF r (upd (upd (upd (upd g 8 (nI (regs (advS S1 p 3)))) 9 (nI (qn (advS S1 p 3)))) 10 ((lfQ (S1 3) p (S1 0) (S1 2)))) 11 ((wrQ y (S1 3) p (S1 0) (S1 2)))))), (r 1, .inl (ca 0, 38, .inl (rwN ((mkR s1 S1 p)))))]) [0, 1] (by decide) rfl (st1 := [.int (nI (advA S1 p))]) rfl 0 0 rfl rfl (fun H locs hP hD hS => ?_))
          refine lv_pop hx hb dX6_execute_24 rfl ?_
          refine lv_iinc (v := (nI (i + 1))) (lv' := [(3, .int (nI (i + 1))), (0, .ref m), (1, .int (nI p)), (2, .int (nI k))]) hx hb dX6_execute_25 hl (k := 0) rfl (show nI i + Int32.ofInt 1 = nI (i + 1) from nI_add _ 1) (by decide) rfl (fun ls hl => ?_)
          refine lv_goto (tgt := 6) hx hb dX6_execute_28 (by decide) ?_
          obtain ⟨d, hd⟩ : ∃ d, k - i = d + 1 := ⟨k - i - 1, by omega⟩
          have hd2 : k - (i + 1) = d := by omega
          rw [hd, runN_go c16] at hn
          rw [hd, runS_go c16] at hSr
          exact ih6 (i + 1) (mkR s1 S1 p) (advS S1 p) (((lfQ (S1 3) p (S1 0) (S1 2)))) (((wrQ y (S1 3) p (S1 0) (S1 2)))) (by omega) (mkR_MR s1 S1 p) (SOK_adv hok1 hp3 c16) hS1 (by rw [hd2]; omega) (by rw [hd2]; exact hSr) (by omega) H locs hP hD hS ls (lv_sub hl [0, 1, 2, 3] rfl)
  exact loop6 (k + 1) 0 s S ((g 10)) ((g 11)) (by omega) hs hok rfl (by rw [Nat.zero_add]; rfl) rfl (by omega) _ _ hP hD hS ls (lv_sub hl [0, 1, 2, 3] rfl)

set_option maxHeartbeats 4000000 in
set_option maxRecDepth 100000 in
theorem c_X6_runAlone (l : Launch) (D : va_G) (ca : Nat → ClassId) (m : Nat) (r : Nat → Nat) (g : Nat → Int32) (s S : Nat → Nat) (hs : MR s S) (hok : SOK S) (p : Nat) (hp : p < S 1) : UP l D ca yX6_runAlone wsX6_runAlone 3 71 0 0 [(m, .inr (4, mF r g)), (r 1, .inl (ca 0, 38, .inl (rwN s)))] [.ref m, .int (nI p)] (fun v W1 => v = some (.int (nI (runN 16 S p))) ∧ ∃ (x y : Int32), W1 = [(m, .inr (4, mF r (upd (upd (upd (upd g 8 (nI (regs ((runS 16 S p) 3)))) 9 (nI (qn ((runS 16 S p) 3)))) 10 x) 11 y))), (r 1, .inl (ca 0, 38, .inl (rwN s)))]) := by
  refine UP.start (cc := cX6_runAlone) (maxL := 3) (ret := (some .int)) (by decide) rfl (Nat.le_of_ble_eq_true rfl) ?_
  intro p_ e_ s_ m_ below_ meth_ c_ A hx hb hml hr hlocks hin hown hts hK hA hP hD hS ls hl
  have hown : s_.vm.findClass RX6 = some m_.cls := hown
  have hl : lv_has ls 3 [(0, .ref m), (1, .int (nI p))] := hl
  have hinX60 : ∀ w ∈ wsX60, w ∈ wsX6_runAlone := fun w h => List.mem_cons_of_mem _ (List.mem_append_right _ h)
  have hp3 : p < 3 := by have := hok.2.1; omega
  refine lv_aload_n hx hb dX6_runAlone_0 rfl (lv_at hl 0 rfl) ?_
  refine uV (nL := 3) (wr := []) (ci := 4) (q0 := 0) (cq := (RX6, TX6, 34)) hx hb hml hown hts hK hA hP hD hS [] [] (c_X6_take l D ca m r g s S hs) gX6_runAlone_X6_take rfl ⟨rfl, qX6_take⟩ ⟨Nat.le_of_ble_eq_true rfl, Nat.le_of_ble_eq_true rfl⟩ rfl rfl [0, 1] [] rfl rfl (by decide) (by decide) rfl hl.1 (Nat.le_of_ble_eq_true rfl) ⟨Nat.le_of_ble_eq_true rfl, Nat.le_of_ble_eq_true rfl⟩ dX6_runAlone_1 (oneK (wsN := [(m, .inr (4, mF r (upd (upd g 8 (nI (regs (S 3)))) 9 (nI (qn (S 3)))))), (r 1, .inl (ca 0, 38, .inl (rwN s)))]) [0, 1] (by decide) rfl (st1 := []) rfl 0 0 rfl rfl (fun H locs hP hD hS => ?_))
  refine lv_iconst (v := nI 0) hx hb dX6_runAlone_4 (by decide) ?_
  refine lv_istore_n (lv' := [(2, .int (nI 0)), (0, .ref m), (1, .int (nI p))]) hx hb dX6_runAlone_5 rfl hl (by decide) rfl (fun ls hl => ?_)
  have loop6 : ∀ (N_ : Nat) (k : Nat) (i : Nat) (S1 : Nat → Nat) (x : Int32) (y : Int32) (hok1 : SOK S1) (hz0 : S1 0 = S 0) (hz2 : S1 2 = S 2) (hz1 : S1 1 = S 1) (hpk : pot (S1 3) p ≤ k) (hn : i + runN k S1 p = runN 16 S p) (hSr : runS k S1 p = runS 16 S p) (hf : k < N_), ∀ (H : Heap) (locs : List Loc), va_P D vwCl [(m, .inr (4, mF r (upd (upd (upd (upd g 8 (nI (regs (S1 3)))) 9 (nI (qn (S1 3)))) 10 x) 11 y))), (r 1, .inl (ca 0, 38, .inl (rwN s)))] H → va_D A [(m, .inr (4, mF r (upd (upd (upd (upd g 8 (nI (regs (S1 3)))) 9 (nI (qn (S1 3)))) 10 x) 11 y))), (r 1, .inl (ca 0, 38, .inl (rwN s)))] → va_S A s_.heap H locs → ∀ (ls : Array Slot), lv_has ls 3 [(2, .int (nI i)), (0, .ref m), (1, .int (nI p))] → W p_ l e_ ({ frames := 3, cells := 0, slots := 0, locals := 71 }) s_ m_ ([.ref m, .int (nI p)]).toArray below_ meth_ c_ H locs 0 0 (MQ below_ (uQA D ca A (fun v W1 => v = some (.int (nI (runN 16 S p))) ∧ ∃ (x y : Int32), W1 = [(m, .inr (4, mF r (upd (upd (upd (upd g 8 (nI (regs ((runS 16 S p) 3)))) 9 (nI (qn ((runS 16 S p) 3)))) 10 x) 11 y))), (r 1, .inl (ca 0, 38, .inl (rwN s)))])) ([.ref m, .int (nI p)]).toArray s_ 0 0 A) (F0 m_ 6 ls []) := by
    intro N_
    induction N_ with
    | zero => intro k i S1 x y hok1 hz0 hz2 hz1 hpk hn hSr hf; exfalso; omega
    | succ N_ ih6 =>
      intro k i S1 x y hok1 hz0 hz2 hz1 hpk hn hSr hf H locs hP hD hS ls hl
      refine lv_aload_n hx hb dX6_runAlone_6 rfl (lv_at hl 1 rfl) ?_
      refine lv_iload_n hx hb dX6_runAlone_7 rfl (lv_at hl 2 rfl) ?_
      refine rdV (nL := 3) (ci := 4) (q0 := 0) (cq := (RX6, TX6, 34)) hx hb hml hown hts hK hP [.int (nI p)] [] (c_X6_statusIn l D ca m r ((upd (upd (upd (upd g 8 (nI (regs (S1 3)))) 9 (nI (qn (S1 3)))) 10 x) 11 y)) (qn (S1 3)) rfl (qn_lt _) p hp3) gX6_runAlone_X6_statusIn rfl ⟨rfl, qX6_statusIn⟩ ⟨Nat.le_of_ble_eq_true rfl, Nat.le_of_ble_eq_true rfl⟩ rfl rfl [0] rfl rfl hl.1 (Nat.le_of_ble_eq_true rfl) ⟨Nat.le_of_ble_eq_true rfl, Nat.le_of_ble_eq_true rfl⟩ dX6_runAlone_8 ?_
      rw [show (nI (gF (qn (S1 3)) (8 * p) 2)) = (nI (stC (S1 3) p)) from (by rw [qn_st hp3])]
      refine n_if_ne (tgt := 26) hx hb dX6_runAlone_11 (by decide) (stC_b _ _) (fun c11 => ?_) (fun c11 => ?_)
      · refine lv_iload_n hx hb dX6_runAlone_26 rfl (lv_at hl 0 rfl) ?_
        exact uRetI hx hb hr hlocks hK hP hD hS ⟨by rw [← hn, runN_stop c11, Nat.add_zero], x, y, by rw [← hSr, runS_stop c11]⟩ (Nat.le_of_ble_eq_true rfl) (Nat.le_of_ble_eq_true rfl) dX6_runAlone_27
      · have hpp := pot_pos (hok1.2.2.2.2.1 p hp3) hok1.1.2 c11
        obtain ⟨d, rfl⟩ : ∃ d, k = d + 1 := ⟨k - 1, by omega⟩
        have hlp : pot (advS S1 p 3) p ≤ d := by have := (step_p (g := S1 2) hp3 hok1.1.1 hok1.1.2 c11 (hok1.2.2.2.2.1 p hp3)).2; show pot (stepC (S1 3) p (S1 0) (S1 2)) p ≤ d; omega
        refine lv_aload_n hx hb dX6_runAlone_14 rfl (lv_at hl 1 rfl) ?_
        refine lv_iload_n hx hb dX6_runAlone_15 rfl (lv_at hl 2 rfl) ?_
        refine uV (nL := 3) (wr := []) (ci := 4) (q0 := 0) (cq := (RX6, TX6, 34)) hx hb hml hown hts hK hA hP hD hS [.int (nI p)] [] (c_X6_stepOf l D ca m r ((upd (upd (upd (upd g 8 (nI (regs (S1 3)))) 9 (nI (qn (S1 3)))) 10 x) 11 y)) s (S1 0) (S1 2) (S1 3) p ((hs 0 (by decide)).trans hz0.symm) ((hs 2 (by decide)).trans hz2.symm) hok1.1 hok1.2.2.1 hok1.2.2.2.1 hp3 c11 (hok1.2.2.2.2.1 p hp3) rfl rfl) gX6_runAlone_X6_stepOf rfl ⟨rfl, qX6_stepOf⟩ ⟨Nat.le_of_ble_eq_true rfl, Nat.le_of_ble_eq_true rfl⟩ rfl rfl [0, 1] [] rfl rfl (by decide) (by decide) rfl hl.1 (Nat.le_of_ble_eq_true rfl) ⟨Nat.le_of_ble_eq_true rfl, Nat.le_of_ble_eq_true rfl⟩ dX6_runAlone_16 (oneK (wsN := [(m, .inr (4, mF r (upd (upd (upd (upd g 8 (nI (regs (nxC S1 p)))) 9 (nI (qn (nxC S1 p)))) 10 ((lfQ (S1 3) p (S1 0) (S1 2)))) 11 ((wrQ y (S1 3) p (S1 0) (S1 2)))))), (r 1, .inl (ca 0, 38, .inl (rwN s)))]) [0, 1] (by decide) rfl (st1 := [.int (nI (advA S1 p))]) rfl 0 0 rfl rfl (fun H locs hP hD hS => ?_))
        refine lv_pop hx hb dX6_runAlone_19 rfl ?_
        refine lv_iinc (v := (nI (i + 1))) (lv' := [(2, .int (nI (i + 1))), (0, .ref m), (1, .int (nI p))]) hx hb dX6_runAlone_20 hl (k := 0) rfl (show nI i + Int32.ofInt 1 = nI (i + 1) from nI_add _ 1) (by decide) rfl (fun ls hl => ?_)
        refine lv_goto (tgt := 6) hx hb dX6_runAlone_23 (by decide) ?_
        rw [runN_go c11] at hn
        rw [runS_go c11] at hSr
        exact ih6 d (i + 1) (advS S1 p) (((lfQ (S1 3) p (S1 0) (S1 2)))) (((wrQ y (S1 3) p (S1 0) (S1 2)))) (SOK_adv hok1 hp3 c11) hz0 hz2 hz1 hlp (by omega) hSr (by omega) H locs hP hD hS ls (lv_sub hl [0, 1, 2] rfl)
  exact loop6 17 16 0 S ((g 10)) ((g 11)) hok rfl rfl rfl (pot_16 _ _) (by rw [Nat.zero_add]) rfl (by decide) _ _ hP hD hS ls (lv_sub hl [0, 1, 2] rfl)

