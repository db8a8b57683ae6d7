theorem nlt2 {q : Int32} (h : q < nI 2) : ¬ nI 2 ≤ q := fun z => by rw [← Int32.not_lt] at z; exact z h
theorem lt2n {q : Int32} (h : ¬ q < nI 2) : nI 2 ≤ q := Int32.not_lt.mp h

set_option maxHeartbeats 4000000 in
set_option maxRecDepth 100000 in
theorem c_X5_save_00 (l : Launch) (D : va_G) (ca : Nat → ClassId) (g pr sc sa sl sch : Nat) (nS : Nat) (vW vT : Value) (z0 z1 : Nat) (V0 V1 : Nat → Nat) (S : Nat → Nat) (hok : SOK S) (q : Int32) : UP l D ca yX5_save wsX5_save 3 65 1 8 [(g, .inr (3, [.ref pr, .ref sc, .ref sa, .int (nI nS), .ref sl, .ref sch, vW, vT])), (pr, .inr (2, cS S)), (sl, .inl (ca 4, 2, .inr (.inr (.inr (.inr (qo [none, none]))))))] [.ref g, .int q] (fun v W1 => (¬ inR 2 q ∧ v = some (.int (-1)) ∧ W1 = [(g, .inr (3, [.ref pr, .ref sc, .ref sa, .int (nI nS), .ref sl, .ref sch, vW, vT])), (pr, .inr (2, cS S)), (sl, .inl (ca 4, 2, .inr (.inr (.inr (.inr (qo [none, none]))))))]) ∨ (q = nI 0 ∧ v = some (.int (nI (runC (S 3) (S 1)))) ∧ ∃ y : Nat, W1 = [(g, .inr (3, [.ref pr, .ref sc, .ref sa, .int (nI nS), .ref sl, .ref sch, vW, vT])), (pr, .inr (2, cS S)), (sl, .inl (ca 4, 2, .inr (.inr (.inr (.inr (qo [some y, none])))))), (y, .inr (2, cS S))]) ∨ (q = nI 1 ∧ v = some (.int (nI (runC (S 3) (S 1)))) ∧ ∃ y : Nat, W1 = [(g, .inr (3, [.ref pr, .ref sc, .ref sa, .int (nI nS), .ref sl, .ref sch, vW, vT])), (pr, .inr (2, cS S)), (sl, .inl (ca 4, 2, .inr (.inr (.inr (.inr (qo [none, some y])))))), (y, .inr (2, cS S))])) := by
  refine UP.start (cc := cX5_save) (maxL := 2) (ret := (some .int)) (by decide) rfl (Nat.le_of_ble_eq_true rfl) ?_
  intro p_ e_ s_ m_ below_ meth_ c_ A hx hb hml hr hlocks hin hown hts hK hA hP hD hS ls hl
  have hown : s_.vm.findClass RX5 = some m_.cls := hown
  have hl : lv_has ls 2 [(0, .ref g), (1, .int q)] := hl
  have hinX50 : ∀ w ∈ wsX50, w ∈ wsX5_save := fun w h => List.mem_cons_of_mem _ (List.mem_append_left _ (List.mem_append_right _ h))
  have hinX40 : ∀ w ∈ wsX40, w ∈ wsX5_save := fun w h => List.mem_cons_of_mem _ (List.mem_append_right _ h)
  have hC := hok.2.2.2.1
  have hz := hok.1
  have hn3 := hok.2.1
  have hg := hok.2.2.1
  have hnm := nmS_le hok
  have hct := hok.2.2.2.2.2.2.1
  refine lv_iload_n hx hb dX5_save_0 rfl (lv_at hl 1 rfl) ?_
  refine lv_if_lt (tgt := 13) hx hb dX5_save_1 (by decide) (fun c1 => ?_) (fun c1 => ?_)
  · refine lv_iconst (v := -1) hx hb dX5_save_13 (by decide) ?_
    exact uRetI hx hb hr hlocks hK hP hD hS (Or.inl ⟨fun z => z.1 c1, rfl, rfl⟩) (Nat.le_of_ble_eq_true rfl) (Nat.le_of_ble_eq_true rfl) dX5_save_14
  · refine lv_iload_n hx hb dX5_save_4 rfl (lv_at hl 1 rfl) ?_
    refine lv_aload_n hx hb dX5_save_5 rfl (lv_at hl 0 rfl) ?_
    refine va_get (D := D) (ci := 3) (v := .ref sl) (C := RX5) (T := TX5) (N := 8) hx hb hts hinX50 hown hK.1 hP 0 rfl rfl 4 (by decide) (hts (.fieldLink RX5 27 "RenamingGrid" "slots" "[LRenamingGrid$State;") (List.mem_of_getElem? (i := 1) rfl)) (fun _ h9 => h9) rfl dX5_save_6 ?_
    refine va_alen (D := D) (v := nI 2) hx hb hK.1 hP 2 4 rfl rfl rfl dX5_save_9 ?_
    refine lv_icmp_lt (tgt := 15) hx hb dX5_save_10 (by decide) (fun c10 => ?_) (fun c10 => ?_)
    · obtain ⟨j, hj, rfl⟩ := inR_j (n := 2) (by decide) ⟨c1, nlt2 c10⟩
      rcases (show j = 0 ∨ j = 1 by omega) with rfl | rfl
      · refine lv_aload_n hx hb dX5_save_15 rfl (lv_at hl 0 rfl) ?_
        refine va_get (D := D) (ci := 3) (v := .ref sl) (C := RX5) (T := TX5) (N := 8) hx hb hts hinX50 hown hK.1 hP 0 rfl rfl 4 (by decide) (hts (.fieldLink RX5 27 "RenamingGrid" "slots" "[LRenamingGrid$State;") (List.mem_of_getElem? (i := 1) rfl)) (fun _ h9 => h9) rfl dX5_save_16 ?_
        refine lv_iload_n hx hb dX5_save_19 rfl (lv_at hl 1 rfl) ?_
        refine n_qald (D := D) (ca := ca) (v := .null) hx hb hK.1 hP 2 (f := (qo [none, none])) rfl (by omega) (by decide) rfl dX5_save_20 ?_
        refine lv_ifnonnullN hx hb dX5_save_21 ?_
        refine lv_aload_n hx hb dX5_save_24 rfl (lv_at hl 0 rfl) ?_
        refine va_get (D := D) (ci := 3) (v := .ref sl) (C := RX5) (T := TX5) (N := 8) hx hb hts hinX50 hown hK.1 hP 0 rfl rfl 4 (by decide) (hts (.fieldLink RX5 27 "RenamingGrid" "slots" "[LRenamingGrid$State;") (List.mem_of_getElem? (i := 1) rfl)) (fun _ h9 => h9) rfl dX5_save_25 ?_
        refine lv_iload_n hx hb dX5_save_28 rfl (lv_at hl 1 rfl) ?_
        refine va_new (D := D) (ci := 2) (fs := [.int (nI 0), .int (nI 0), .int (nI 0), .long (lN 0), .long (lN 0), .long (lN 0), .long (lN 0), .long (lN 0)]) (C := RX4) (T := TX4) (N := 8) hx hb hts hinX40 tyX4 tyX4_ok hown (hts (.classLink RX5 7 RX4) (List.mem_of_getElem? (i := 2) rfl)) (hts (.instantiable RX4 8) (List.mem_of_getElem? (i := 3) rfl)) (hts (.initialized RX4) (List.mem_of_getElem? (i := 4) rfl)) hK.1 hP hD hS hA rfl (fun j hj => by rcases (show j = 0 ∨ j = 1 ∨ j = 2 ∨ j = 3 ∨ j = 4 ∨ j = 5 ∨ j = 6 ∨ j = 7 by omega) with rfl | rfl | rfl | rfl | rfl | rfl | rfl | rfl <;> rfl) (by decide) (by decide) dX5_save_29 (fun zn H hP hD hS => ?_)
        have hP : va_P D vwCl [(g, .inr (3, [.ref pr, .ref sc, .ref sa, .int (nI nS), .ref sl, .ref sch, vW, vT])), (pr, .inr (2, cS S)), (sl, .inl (ca 4, 2, .inr (.inr (.inr (.inr (qo [none, none])))))), (zn, .inr (2, [.int (nI 0), .int (nI 0), .int (nI 0), .long (lN 0), .long (lN 0), .long (lN 0), .long (lN 0), .long (lN 0)]))] H := hP
        have hD : va_D A [(g, .inr (3, [.ref pr, .ref sc, .ref sa, .int (nI nS), .ref sl, .ref sch, vW, vT])), (pr, .inr (2, cS S)), (sl, .inl (ca 4, 2, .inr (.inr (.inr (.inr (qo [none, none])))))), (zn, .inr (2, [.int (nI 0), .int (nI 0), .int (nI 0), .long (lN 0), .long (lN 0), .long (lN 0), .long (lN 0), .long (lN 0)]))] := hD
        refine W.cs (cells' := 1) (slots' := 8) (by decide) (by decide) ?_
        refine lv_dup hx hb dX5_save_32 rfl ?_
        refine uIN (nL := 2) (wr := [(g, .inr (3, [.ref pr, .ref sc, .ref sa, .int (nI nS), .ref sl, .ref sch, vW, vT])), (pr, .inr (2, cS S)), (sl, .inl (ca 4, 2, .inr (.inr (.inr (.inr (qo [none, none]))))))]) hx hb hml hown hts hK hA hP hD hS [] [.ref zn, .int (nI 0), .ref sl] (c_X4_init l D ca zn (fun _ => 0)) gX5_save_X4_init_n9 rfl (hts (.initialized RX4) (List.mem_of_getElem? (i := 4) rfl)) (hK.2.2.1 (9, yX4_init) (List.mem_of_getElem? (i := 0) rfl)) (hts (.instanceMethod yX4_init) (List.mem_of_getElem? (i := 6) rfl)) rfl qX4_init ⟨Nat.le_of_ble_eq_true rfl, Nat.le_of_ble_eq_true rfl⟩ [3] [0, 1, 2] rfl rfl (by decide) (by decide) rfl hl.1 (Nat.le_of_ble_eq_true rfl) ⟨Nat.le_of_ble_eq_true rfl, Nat.le_of_ble_eq_true rfl⟩ dX5_save_33 (oneK (wsN := [(g, .inr (3, [.ref pr, .ref sc, .ref sa, .int (nI nS), .ref sl, .ref sch, vW, vT])), (pr, .inr (2, cS S)), (sl, .inl (ca 4, 2, .inr (.inr (.inr (.inr (qo [none, none])))))), (zn, .inr (2, cS ((fun _ => 0))))]) [0, 1, 2, 3] (by decide) rfl (st1 := [.ref zn, .int (nI 0), .ref sl]) rfl 1 8 rfl rfl (fun H locs hP hD hS => ?_))
        refine n_qast (D := D) (ca := ca) hx hb hK.1 hP hD hS 2 3 (f := (qo [none, none])) rfl rfl (by omega) (by decide) dX5_save_36 (fun H locs hP hD hS => ?_)
        have hP : va_P D vwCl [(g, .inr (3, [.ref pr, .ref sc, .ref sa, .int (nI nS), .ref sl, .ref sch, vW, vT])), (pr, .inr (2, cS S)), (sl, .inl (ca 4, 2, .inr (.inr (.inr (.inr (va_up (qo [none, none]) 0 (some zn))))))), (zn, .inr (2, cS ((fun _ => 0))))] H := hP
        have hD : va_D A [(g, .inr (3, [.ref pr, .ref sc, .ref sa, .int (nI nS), .ref sl, .ref sch, vW, vT])), (pr, .inr (2, cS S)), (sl, .inl (ca 4, 2, .inr (.inr (.inr (.inr (va_up (qo [none, none]) 0 (some zn))))))), (zn, .inr (2, cS ((fun _ => 0))))] := hD
        rw [show va_up (qo [none, none]) 0 (some zn) = qo [some zn, none] from qo_up (Nat.le_of_ble_eq_true rfl) rfl] at hP hD
        refine lv_aload_n hx hb dX5_save_37 rfl (lv_at hl 0 rfl) ?_
        refine va_get (D := D) (ci := 3) (v := .ref sl) (C := RX5) (T := TX5) (N := 8) hx hb hts hinX50 hown hK.1 hP 0 rfl rfl 4 (by decide) (hts (.fieldLink RX5 27 "RenamingGrid" "slots" "[LRenamingGrid$State;") (List.mem_of_getElem? (i := 1) rfl)) (fun _ h9 => h9) rfl dX5_save_38 ?_
        refine lv_iload_n hx hb dX5_save_41 rfl (lv_at hl 1 rfl) ?_
        refine n_qald (D := D) (ca := ca) (v := .ref zn) hx hb hK.1 hP 2 (f := (qo [some zn, none])) rfl (by omega) (by decide) rfl dX5_save_42 ?_
        refine lv_aload_n hx hb dX5_save_43 rfl (lv_at hl 0 rfl) ?_
        refine va_get (D := D) (ci := 3) (v := .ref pr) (C := RX5) (T := TX5) (N := 8) hx hb hts hinX50 hown hK.1 hP 0 rfl rfl 0 (by decide) (hts (.fieldLink RX5 10 "RenamingGrid" "present" "LRenamingGrid$State;") (List.mem_of_getElem? (i := 5) rfl)) (fun _ h9 => h9) rfl dX5_save_44 ?_
        refine uV (nL := 2) (wr := [(g, .inr (3, [.ref pr, .ref sc, .ref sa, .int (nI nS), .ref sl, .ref sch, vW, vT])), (sl, .inl (ca 4, 2, .inr (.inr (.inr (.inr (qo [some zn, none]))))))]) (ci := 2) (q0 := 3) (cq := (RX4, TX4, 8)) hx hb hml hown hts hK hA hP hD hS [.ref pr] [] (c_X4_copyFrom l D ca zn pr ((fun _ => 0)) S) gX5_save_X4_copyFrom rfl ⟨rfl, qX4_copyFrom⟩ ⟨Nat.le_of_ble_eq_true rfl, Nat.le_of_ble_eq_true rfl⟩ rfl rfl [3, 1] [0, 2] rfl rfl (by decide) (by decide) rfl hl.1 (Nat.le_of_ble_eq_true rfl) ⟨Nat.le_of_ble_eq_true rfl, Nat.le_of_ble_eq_true rfl⟩ dX5_save_47 (oneK (wsN := [(g, .inr (3, [.ref pr, .ref sc, .ref sa, .int (nI nS), .ref sl, .ref sch, vW, vT])), (pr, .inr (2, cS S)), (sl, .inl (ca 4, 2, .inr (.inr (.inr (.inr (qo [some zn, none])))))), (zn, .inr (2, cS S))]) [0, 3, 1, 2] (by decide) rfl (st1 := []) rfl 1 8 rfl rfl (fun H locs hP hD hS => ?_))
        refine lv_aload_n hx hb dX5_save_50 rfl (lv_at hl 0 rfl) ?_
        refine va_get (D := D) (ci := 3) (v := .ref pr) (C := RX5) (T := TX5) (N := 8) hx hb hts hinX50 hown hK.1 hP 0 rfl rfl 0 (by decide) (hts (.fieldLink RX5 10 "RenamingGrid" "present" "LRenamingGrid$State;") (List.mem_of_getElem? (i := 5) rfl)) (fun _ h9 => h9) rfl dX5_save_51 ?_
        refine rdV (nL := 2) (ci := 2) (q0 := 1) (cq := (RX4, TX4, 8)) hx hb hml hown hts hK hP [] [] (c_X4_countRunning l D ca pr S hC (show S 1 ≤ 3 by omega)) gX5_save_X4_countRunning rfl ⟨rfl, qX4_countRunning⟩ ⟨Nat.le_of_ble_eq_true rfl, Nat.le_of_ble_eq_true rfl⟩ rfl rfl [1] rfl rfl hl.1 (Nat.le_of_ble_eq_true rfl) ⟨Nat.le_of_ble_eq_true rfl, Nat.le_of_ble_eq_true rfl⟩ dX5_save_54 ?_
        have hP : va_P D vwCl [(g, .inr (3, [.ref pr, .ref sc, .ref sa, .int (nI nS), .ref sl, .ref sch, vW, vT])), (pr, .inr (2, cS S)), (sl, .inl (ca 4, 2, .inr (.inr (.inr (.inr (qo [some zn, none])))))), (zn, .inr (2, cS S))] H := hP.sub [0, 1, 2, 3] rfl
        have hD : va_D A [(g, .inr (3, [.ref pr, .ref sc, .ref sa, .int (nI nS), .ref sl, .ref sch, vW, vT])), (pr, .inr (2, cS S)), (sl, .inl (ca 4, 2, .inr (.inr (.inr (.inr (qo [some zn, none])))))), (zn, .inr (2, cS S))] := hD.sub [0, 1, 2, 3] (by decide) rfl
        exact uRetI hx hb hr hlocks hK hP hD hS (Or.inr (Or.inl ⟨rfl, rfl, zn, rfl⟩)) (Nat.le_of_ble_eq_true rfl) (Nat.le_of_ble_eq_true rfl) dX5_save_57
      · refine lv_aload_n hx hb dX5_save_15 rfl (lv_at hl 0 rfl) ?_
        refine va_get (D := D) (ci := 3) (v := .ref sl) (C := RX5) (T := TX5) (N := 8) hx hb hts hinX50 hown hK.1 hP 0 rfl rfl 4 (by decide) (hts (.fieldLink RX5 27 "RenamingGrid" "slots" "[LRenamingGrid$State;") (List.mem_of_getElem? (i := 1) rfl)) (fun _ h9 => h9) rfl dX5_save_16 ?_
        refine lv_iload_n hx hb dX5_save_19 rfl (lv_at hl 1 rfl) ?_
        refine n_qald (D := D) (ca := ca) (v := .null) hx hb hK.1 hP 2 (f := (qo [none, none])) rfl (by omega) (by decide) rfl dX5_save_20 ?_
        refine lv_ifnonnullN hx hb dX5_save_21 ?_
        refine lv_aload_n hx hb dX5_save_24 rfl (lv_at hl 0 rfl) ?_
        refine va_get (D := D) (ci := 3) (v := .ref sl) (C := RX5) (T := TX5) (N := 8) hx hb hts hinX50 hown hK.1 hP 0 rfl rfl 4 (by decide) (hts (.fieldLink RX5 27 "RenamingGrid" "slots" "[LRenamingGrid$State;") (List.mem_of_getElem? (i := 1) rfl)) (fun _ h9 => h9) rfl dX5_save_25 ?_
        refine lv_iload_n hx hb dX5_save_28 rfl (lv_at hl 1 rfl) ?_
        refine va_new (D := D) (ci := 2) (fs := [.int (nI 0), .int (nI 0), .int (nI 0), .long (lN 0), .long (lN 0), .long (lN 0), .long (lN 0), .long (lN 0)]) (C := RX4) (T := TX4) (N := 8) hx hb hts hinX40 tyX4 tyX4_ok hown (hts (.classLink RX5 7 RX4) (List.mem_of_getElem? (i := 2) rfl)) (hts (.instantiable RX4 8) (List.mem_of_getElem? (i := 3) rfl)) (hts (.initialized RX4) (List.mem_of_getElem? (i := 4) rfl)) hK.1 hP hD hS hA rfl (fun j hj => by rcases (show j = 0 ∨ j = 1 ∨ j = 2 ∨ j = 3 ∨ j = 4 ∨ j = 5 ∨ j = 6 ∨ j = 7 by omega) with rfl | rfl | rfl | rfl | rfl | rfl | rfl | rfl <;> rfl) (by decide) (by decide) dX5_save_29 (fun zn H hP hD hS => ?_)
        have hP : va_P D vwCl [(g, .inr (3, [.ref pr, .ref sc, .ref sa, .int (nI nS), .ref sl, .ref sch, vW, vT])), (pr, .inr (2, cS S)), (sl, .inl (ca 4, 2, .inr (.inr (.inr (.inr (qo [none, none])))))), (zn, .inr (2, [.int (nI 0), .int (nI 0), .int (nI 0), .long (lN 0), .long (lN 0), .long (lN 0), .long (lN 0), .long (lN 0)]))] H := hP
        have hD : va_D A [(g, .inr (3, [.ref pr, .ref sc, .ref sa, .int (nI nS), .ref sl, .ref sch, vW, vT])), (pr, .inr (2, cS S)), (sl, .inl (ca 4, 2, .inr (.inr (.inr (.inr (qo [none, none])))))), (zn, .inr (2, [.int (nI 0), .int (nI 0), .int (nI 0), .long (lN 0), .long (lN 0), .long (lN 0), .long (lN 0), .long (lN 0)]))] := hD
        refine W.cs (cells' := 1) (slots' := 8) (by decide) (by decide) ?_
        refine lv_dup hx hb dX5_save_32 rfl ?_
        refine uIN (nL := 2) (wr := [(g, .inr (3, [.ref pr, .ref sc, .ref sa, .int (nI nS), .ref sl, .ref sch, vW, vT])), (pr, .inr (2, cS S)), (sl, .inl (ca 4, 2, .inr (.inr (.inr (.inr (qo [none, none]))))))]) hx hb hml hown hts hK hA hP hD hS [] [.ref zn, .int (nI 1), .ref sl] (c_X4_init l D ca zn (fun _ => 0)) gX5_save_X4_init_n9 rfl (hts (.initialized RX4) (List.mem_of_getElem? (i := 4) rfl)) (hK.2.2.1 (9, yX4_init) (List.mem_of_getElem? (i := 0) rfl)) (hts (.instanceMethod yX4_init) (List.mem_of_getElem? (i := 6) rfl)) rfl qX4_init ⟨Nat.le_of_ble_eq_true rfl, Nat.le_of_ble_eq_true rfl⟩ [3] [0, 1, 2] rfl rfl (by decide) (by decide) rfl hl.1 (Nat.le_of_ble_eq_true rfl) ⟨Nat.le_of_ble_eq_true rfl, Nat.le_of_ble_eq_true rfl⟩ dX5_save_33 (oneK (wsN := [(g, .inr (3, [.ref pr, .ref sc, .ref sa, .int (nI nS), .ref sl, .ref sch, vW, vT])), (pr, .inr (2, cS S)), (sl, .inl (ca 4, 2, .inr (.inr (.inr (.inr (qo [none, none])))))), (zn, .inr (2, cS ((fun _ => 0))))]) [0, 1, 2, 3] (by decide) rfl (st1 := [.ref zn, .int (nI 1), .ref sl]) rfl 1 8 rfl rfl (fun H locs hP hD hS => ?_))
        refine n_qast (D := D) (ca := ca) hx hb hK.1 hP hD hS 2 3 (f := (qo [none, none])) rfl rfl (by omega) (by decide) dX5_save_36 (fun H locs hP hD hS => ?_)
        have hP : va_P D vwCl [(g, .inr (3, [.ref pr, .ref sc, .ref sa, .int (nI nS), .ref sl, .ref sch, vW, vT])), (pr, .inr (2, cS S)), (sl, .inl (ca 4, 2, .inr (.inr (.inr (.inr (va_up (qo [none, none]) 1 (some zn))))))), (zn, .inr (2, cS ((fun _ => 0))))] H := hP
        have hD : va_D A [(g, .inr (3, [.ref pr, .ref sc, .ref sa, .int (nI nS), .ref sl, .ref sch, vW, vT])), (pr, .inr (2, cS S)), (sl, .inl (ca 4, 2, .inr (.inr (.inr (.inr (va_up (qo [none, none]) 1 (some zn))))))), (zn, .inr (2, cS ((fun _ => 0))))] := hD
        rw [show va_up (qo [none, none]) 1 (some zn) = qo [none, some zn] from qo_up (Nat.le_of_ble_eq_true rfl) rfl] at hP hD
        refine lv_aload_n hx hb dX5_save_37 rfl (lv_at hl 0 rfl) ?_
        refine va_get (D := D) (ci := 3) (v := .ref sl) (C := RX5) (T := TX5) (N := 8) hx hb hts hinX50 hown hK.1 hP 0 rfl rfl 4 (by decide) (hts (.fieldLink RX5 27 "RenamingGrid" "slots" "[LRenamingGrid$State;") (List.mem_of_getElem? (i := 1) rfl)) (fun _ h9 => h9) rfl dX5_save_38 ?_
        refine lv_iload_n hx hb dX5_save_41 rfl (lv_at hl 1 rfl) ?_
        refine n_qald (D := D) (ca := ca) (v := .ref zn) hx hb hK.1 hP 2 (f := (qo [none, some zn])) rfl (by omega) (by decide) rfl dX5_save_42 ?_
        refine lv_aload_n hx hb dX5_save_43 rfl (lv_at hl 0 rfl) ?_
        refine va_get (D := D) (ci := 3) (v := .ref pr) (C := RX5) (T := TX5) (N := 8) hx hb hts hinX50 hown hK.1 hP 0 rfl rfl 0 (by decide) (hts (.fieldLink RX5 10 "RenamingGrid" "present" "LRenamingGrid$State;") (List.mem_of_getElem? (i := 5) rfl)) (fun _ h9 => h9) rfl dX5_save_44 ?_
        refine uV (nL := 2) (wr := [(g, .inr (3, [.ref pr, .ref sc, .ref sa, .int (nI nS), .ref sl, .ref sch, vW, vT])), (sl, .inl (ca 4, 2, .inr (.inr (.inr (.inr (qo [none, some zn]))))))]) (ci := 2) (q0 := 3) (cq := (RX4, TX4, 8)) hx hb hml hown hts hK hA hP hD hS [.ref pr] [] (c_X4_copyFrom l D ca zn pr ((fun _ => 0)) S) gX5_save_X4_copyFrom rfl ⟨rfl, qX4_copyFrom⟩ ⟨Nat.le_of_ble_eq_true rfl, Nat.le_of_ble_eq_true rfl⟩ rfl rfl [3, 1] [0, 2] rfl rfl (by decide) (by decide) rfl hl.1 (Nat.le_of_ble_eq_true rfl) ⟨Nat.le_of_ble_eq_true rfl, Nat.le_of_ble_eq_true rfl⟩ dX5_save_47 (oneK (wsN := [(g, .inr (3, [.ref pr, .ref sc, .ref sa, .int (nI nS), .ref sl, .ref sch, vW, vT])), (pr, .inr (2, cS S)), (sl, .inl (ca 4, 2, .inr (.inr (.inr (.inr (qo [none, some zn])))))), (zn, .inr (2, cS S))]) [0, 3, 1, 2] (by decide) rfl (st1 := []) rfl 1 8 rfl rfl (fun H locs hP hD hS => ?_))
        refine lv_aload_n hx hb dX5_save_50 rfl (lv_at hl 0 rfl) ?_
        refine va_get (D := D) (ci := 3) (v := .ref pr) (C := RX5) (T := TX5) (N := 8) hx hb hts hinX50 hown hK.1 hP 0 rfl rfl 0 (by decide) (hts (.fieldLink RX5 10 "RenamingGrid" "present" "LRenamingGrid$State;") (List.mem_of_getElem? (i := 5) rfl)) (fun _ h9 => h9) rfl dX5_save_51 ?_
        refine rdV (nL := 2) (ci := 2) (q0 := 1) (cq := (RX4, TX4, 8)) hx hb hml hown hts hK hP [] [] (c_X4_countRunning l D ca pr S hC (show S 1 ≤ 3 by omega)) gX5_save_X4_countRunning rfl ⟨rfl, qX4_countRunning⟩ ⟨Nat.le_of_ble_eq_true rfl, Nat.le_of_ble_eq_true rfl⟩ rfl rfl [1] rfl rfl hl.1 (Nat.le_of_ble_eq_true rfl) ⟨Nat.le_of_ble_eq_true rfl, Nat.le_of_ble_eq_true rfl⟩ dX5_save_54 ?_
        have hP : va_P D vwCl [(g, .inr (3, [.ref pr, .ref sc, .ref sa, .int (nI nS), .ref sl, .ref sch, vW, vT])), (pr, .inr (2, cS S)), (sl, .inl (ca 4, 2, .inr (.inr (.inr (.inr (qo [none, some zn])))))), (zn, .inr (2, cS S))] H := hP.sub [0, 1, 2, 3] rfl
        have hD : va_D A [(g, .inr (3, [.ref pr, .ref sc, .ref sa, .int (nI nS), .ref sl, .ref sch, vW, vT])), (pr, .inr (2, cS S)), (sl, .inl (ca 4, 2, .inr (.inr (.inr (.inr (qo [none, some zn])))))), (zn, .inr (2, cS S))] := hD.sub [0, 1, 2, 3] (by decide) rfl
        exact uRetI hx hb hr hlocks hK hP hD hS (Or.inr (Or.inr ⟨rfl, rfl, zn, rfl⟩)) (Nat.le_of_ble_eq_true rfl) (Nat.le_of_ble_eq_true rfl) dX5_save_57
    · refine lv_iconst (v := -1) hx hb dX5_save_13 (by decide) ?_
      exact uRetI hx hb hr hlocks hK hP hD hS (Or.inl ⟨fun z => z.2 (lt2n c10), rfl, rfl⟩) (Nat.le_of_ble_eq_true rfl) (Nat.le_of_ble_eq_true rfl) dX5_save_14

set_option maxHeartbeats 4000000 in
set_option maxRecDepth 100000 in
theorem c_X5_restore_00 (l : Launch) (D : va_G) (ca : Nat → ClassId) (g pr sc sa sl sch : Nat) (nS : Nat) (vW vT : Value) (z0 z1 : Nat) (V0 V1 : Nat → Nat) (S : Nat → Nat) (hok : SOK S) (q : Int32) (hok0 : SOK V0) (hok1 : SOK V1) : UP l D ca yX5_restore wsX5_restore 0 0 0 0 [(g, .inr (3, [.ref pr, .ref sc, .ref sa, .int (nI nS), .ref sl, .ref sch, vW, vT])), (pr, .inr (2, cS S)), (sl, .inl (ca 4, 2, .inr (.inr (.inr (.inr (qo [none, none]))))))] [.ref g, .int q] (fun v W1 => (¬ inR 2 q ∧ v = some (.int (-1)) ∧ W1 = [(g, .inr (3, [.ref pr, .ref sc, .ref sa, .int (nI nS), .ref sl, .ref sch, vW, vT])), (pr, .inr (2, cS S)), (sl, .inl (ca 4, 2, .inr (.inr (.inr (.inr (qo [none, none]))))))]) ∨ (q = nI 0 ∧ v = some (.int (-2)) ∧ W1 = [(g, .inr (3, [.ref pr, .ref sc, .ref sa, .int (nI nS), .ref sl, .ref sch, vW, vT])), (pr, .inr (2, cS S)), (sl, .inl (ca 4, 2, .inr (.inr (.inr (.inr (qo [none, none]))))))]) ∨ (q = nI 1 ∧ v = some (.int (-2)) ∧ W1 = [(g, .inr (3, [.ref pr, .ref sc, .ref sa, .int (nI nS), .ref sl, .ref sch, vW, vT])), (pr, .inr (2, cS S)), (sl, .inl (ca 4, 2, .inr (.inr (.inr (.inr (qo [none, none]))))))])) := by
  refine UP.start (cc := cX5_restore) (maxL := 2) (ret := (some .int)) (by decide) rfl (Nat.le_of_ble_eq_true rfl) ?_
  intro p_ e_ s_ m_ below_ meth_ c_ A hx hb hml hr hlocks hin hown hts hK hA hP hD hS ls hl
  have hown : s_.vm.findClass RX5 = some m_.cls := hown
  have hl : lv_has ls 2 [(0, .ref g), (1, .int q)] := hl
  have hinX50 : ∀ w ∈ wsX50, w ∈ wsX5_restore := fun w h => List.mem_cons_of_mem _ (List.mem_append_left _ (List.mem_append_right _ h))
  have hinX40 : ∀ w ∈ wsX40, w ∈ wsX5_restore := fun w h => List.mem_cons_of_mem _ (List.mem_append_right _ h)
  have hC := hok.2.2.2.1
  have hz := hok.1
  have hn3 := hok.2.1
  have hg := hok.2.2.1
  have hnm := nmS_le hok
  have hct := hok.2.2.2.2.2.2.1
  refine lv_iload_n hx hb dX5_restore_0 rfl (lv_at hl 1 rfl) ?_
  refine lv_if_lt (tgt := 13) hx hb dX5_restore_1 (by decide) (fun c1 => ?_) (fun c1 => ?_)
  · refine lv_iconst (v := -1) hx hb dX5_restore_13 (by decide) ?_
    exact uRetI hx hb hr hlocks hK hP hD hS (Or.inl ⟨fun z => z.1 c1, rfl, rfl⟩) (Nat.le_of_ble_eq_true rfl) (Nat.le_of_ble_eq_true rfl) dX5_restore_14
  · refine lv_iload_n hx hb dX5_restore_4 rfl (lv_at hl 1 rfl) ?_
    refine lv_aload_n hx hb dX5_restore_5 rfl (lv_at hl 0 rfl) ?_
    refine va_get (D := D) (ci := 3) (v := .ref sl) (C := RX5) (T := TX5) (N := 8) hx hb hts hinX50 hown hK.1 hP 0 rfl rfl 4 (by decide) (hts (.fieldLink RX5 27 "RenamingGrid" "slots" "[LRenamingGrid$State;") (List.mem_of_getElem? (i := 1) rfl)) (fun _ h9 => h9) rfl dX5_restore_6 ?_
    refine va_alen (D := D) (v := nI 2) hx hb hK.1 hP 2 4 rfl rfl rfl dX5_restore_9 ?_
    refine lv_icmp_lt (tgt := 15) hx hb dX5_restore_10 (by decide) (fun c10 => ?_) (fun c10 => ?_)
    · obtain ⟨j, hj, rfl⟩ := inR_j (n := 2) (by decide) ⟨c1, nlt2 c10⟩
      rcases (show j = 0 ∨ j = 1 by omega) with rfl | rfl
      · refine lv_aload_n hx hb dX5_restore_15 rfl (lv_at hl 0 rfl) ?_
        refine va_get (D := D) (ci := 3) (v := .ref sl) (C := RX5) (T := TX5) (N := 8) hx hb hts hinX50 hown hK.1 hP 0 rfl rfl 4 (by decide) (hts (.fieldLink RX5 27 "RenamingGrid" "slots" "[LRenamingGrid$State;") (List.mem_of_getElem? (i := 1) rfl)) (fun _ h9 => h9) rfl dX5_restore_16 ?_
        refine lv_iload_n hx hb dX5_restore_19 rfl (lv_at hl 1 rfl) ?_
        refine n_qald (D := D) (ca := ca) (v := .null) hx hb hK.1 hP 2 (f := (qo [none, none])) rfl (by omega) (by decide) rfl dX5_restore_20 ?_
        refine lv_ifnonnullN hx hb dX5_restore_21 ?_
        refine lv_bipush (v := -2) hx hb dX5_restore_24 (by decide) ?_
        exact uRetI hx hb hr hlocks hK hP hD hS (Or.inr (Or.inl ⟨rfl, rfl, rfl⟩)) (Nat.le_of_ble_eq_true rfl) (Nat.le_of_ble_eq_true rfl) dX5_restore_26
      · refine lv_aload_n hx hb dX5_restore_15 rfl (lv_at hl 0 rfl) ?_
        refine va_get (D := D) (ci := 3) (v := .ref sl) (C := RX5) (T := TX5) (N := 8) hx hb hts hinX50 hown hK.1 hP 0 rfl rfl 4 (by decide) (hts (.fieldLink RX5 27 "RenamingGrid" "slots" "[LRenamingGrid$State;") (List.mem_of_getElem? (i := 1) rfl)) (fun _ h9 => h9) rfl dX5_restore_16 ?_
        refine lv_iload_n hx hb dX5_restore_19 rfl (lv_at hl 1 rfl) ?_
        refine n_qald (D := D) (ca := ca) (v := .null) hx hb hK.1 hP 2 (f := (qo [none, none])) rfl (by omega) (by decide) rfl dX5_restore_20 ?_
        refine lv_ifnonnullN hx hb dX5_restore_21 ?_
        refine lv_bipush (v := -2) hx hb dX5_restore_24 (by decide) ?_
        exact uRetI hx hb hr hlocks hK hP hD hS (Or.inr (Or.inr ⟨rfl, rfl, rfl⟩)) (Nat.le_of_ble_eq_true rfl) (Nat.le_of_ble_eq_true rfl) dX5_restore_26
    · refine lv_iconst (v := -1) hx hb dX5_restore_13 (by decide) ?_
      exact uRetI hx hb hr hlocks hK hP hD hS (Or.inl ⟨fun z => z.2 (lt2n c10), rfl, rfl⟩) (Nat.le_of_ble_eq_true rfl) (Nat.le_of_ble_eq_true rfl) dX5_restore_14

set_option maxHeartbeats 4000000 in
set_option maxRecDepth 100000 in
theorem c_X5_save_01 (l : Launch) (D : va_G) (ca : Nat → ClassId) (g pr sc sa sl sch : Nat) (nS : Nat) (vW vT : Value) (z0 z1 : Nat) (V0 V1 : Nat → Nat) (S : Nat → Nat) (hok : SOK S) (q : Int32) : UP l D ca yX5_save wsX5_save 3 65 1 8 [(g, .inr (3, [.ref pr, .ref sc, .ref sa, .int (nI nS), .ref sl, .ref sch, vW, vT])), (pr, .inr (2, cS S)), (sl, .inl (ca 4, 2, .inr (.inr (.inr (.inr (qo [none, some z1])))))), (z1, .inr (2, cS V1))] [.ref g, .int q] (fun v W1 => (¬ inR 2 q ∧ v = some (.int (-1)) ∧ W1 = [(g, .inr (3, [.ref pr, .ref sc, .ref sa, .int (nI nS), .ref sl, .ref sch, vW, vT])), (pr, .inr (2, cS S)), (sl, .inl (ca 4, 2, .inr (.inr (.inr (.inr (qo [none, some z1])))))), (z1, .inr (2, cS V1))]) ∨ (q = nI 0 ∧ v = some (.int (nI (runC (S 3) (S 1)))) ∧ ∃ y : Nat, W1 = [(g, .inr (3, [.ref pr, .ref sc, .ref sa, .int (nI nS), .ref sl, .ref sch, vW, vT])), (pr, .inr (2, cS S)), (sl, .inl (ca 4, 2, .inr (.inr (.inr (.inr (qo [some y, some z1])))))), (y, .inr (2, cS S)), (z1, .inr (2, cS V1))]) ∨ (q = nI 1 ∧ v = some (.int (nI (runC (S 3) (S 1)))) ∧ ∃ y : Nat, W1 = [(g, .inr (3, [.ref pr, .ref sc, .ref sa, .int (nI nS), .ref sl, .ref sch, vW, vT])), (pr, .inr (2, cS S)), (sl, .inl (ca 4, 2, .inr (.inr (.inr (.inr (qo [none, some y])))))), (y, .inr (2, cS S))])) := by
  refine UP.start (cc := cX5_save) (maxL := 2) (ret := (some .int)) (by decide) rfl (Nat.le_of_ble_eq_true rfl) ?_
  intro p_ e_ s_ m_ below_ meth_ c_ A hx hb hml hr hlocks hin hown hts hK hA hP hD hS ls hl
  have hown : s_.vm.findClass RX5 = some m_.cls := hown
  have hl : lv_has ls 2 [(0, .ref g), (1, .int q)] := hl
  have hinX50 : ∀ w ∈ wsX50, w ∈ wsX5_save := fun w h => List.mem_cons_of_mem _ (List.mem_append_left _ (List.mem_append_right _ h))
  have hinX40 : ∀ w ∈ wsX40, w ∈ wsX5_save := fun w h => List.mem_cons_of_mem _ (List.mem_append_right _ h)
  have hC := hok.2.2.2.1
  have hz := hok.1
  have hn3 := hok.2.1
  have hg := hok.2.2.1
  have hnm := nmS_le hok
  have hct := hok.2.2.2.2.2.2.1
  refine lv_iload_n hx hb dX5_save_0 rfl (lv_at hl 1 rfl) ?_
  refine lv_if_lt (tgt := 13) hx hb dX5_save_1 (by decide) (fun c1 => ?_) (fun c1 => ?_)
  · refine lv_iconst (v := -1) hx hb dX5_save_13 (by decide) ?_
    exact uRetI hx hb hr hlocks hK hP hD hS (Or.inl ⟨fun z => z.1 c1, rfl, rfl⟩) (Nat.le_of_ble_eq_true rfl) (Nat.le_of_ble_eq_true rfl) dX5_save_14
  · refine lv_iload_n hx hb dX5_save_4 rfl (lv_at hl 1 rfl) ?_
    refine lv_aload_n hx hb dX5_save_5 rfl (lv_at hl 0 rfl) ?_
    refine va_get (D := D) (ci := 3) (v := .ref sl) (C := RX5) (T := TX5) (N := 8) hx hb hts hinX50 hown hK.1 hP 0 rfl rfl 4 (by decide) (hts (.fieldLink RX5 27 "RenamingGrid" "slots" "[LRenamingGrid$State;") (List.mem_of_getElem? (i := 1) rfl)) (fun _ h9 => h9) rfl dX5_save_6 ?_
    refine va_alen (D := D) (v := nI 2) hx hb hK.1 hP 2 4 rfl rfl rfl dX5_save_9 ?_
    refine lv_icmp_lt (tgt := 15) hx hb dX5_save_10 (by decide) (fun c10 => ?_) (fun c10 => ?_)
    · obtain ⟨j, hj, rfl⟩ := inR_j (n := 2) (by decide) ⟨c1, nlt2 c10⟩
      rcases (show j = 0 ∨ j = 1 by omega) with rfl | rfl
      · refine lv_aload_n hx hb dX5_save_15 rfl (lv_at hl 0 rfl) ?_
        refine va_get (D := D) (ci := 3) (v := .ref sl) (C := RX5) (T := TX5) (N := 8) hx hb hts hinX50 hown hK.1 hP 0 rfl rfl 4 (by decide) (hts (.fieldLink RX5 27 "RenamingGrid" "slots" "[LRenamingGrid$State;") (List.mem_of_getElem? (i := 1) rfl)) (fun _ h9 => h9) rfl dX5_save_16 ?_
        refine lv_iload_n hx hb dX5_save_19 rfl (lv_at hl 1 rfl) ?_
        refine n_qald (D := D) (ca := ca) (v := .null) hx hb hK.1 hP 2 (f := (qo [none, some z1])) rfl (by omega) (by decide) rfl dX5_save_20 ?_
        refine lv_ifnonnullN hx hb dX5_save_21 ?_
        refine lv_aload_n hx hb dX5_save_24 rfl (lv_at hl 0 rfl) ?_
        refine va_get (D := D) (ci := 3) (v := .ref sl) (C := RX5) (T := TX5) (N := 8) hx hb hts hinX50 hown hK.1 hP 0 rfl rfl 4 (by decide) (hts (.fieldLink RX5 27 "RenamingGrid" "slots" "[LRenamingGrid$State;") (List.mem_of_getElem? (i := 1) rfl)) (fun _ h9 => h9) rfl dX5_save_25 ?_
        refine lv_iload_n hx hb dX5_save_28 rfl (lv_at hl 1 rfl) ?_
        refine va_new (D := D) (ci := 2) (fs := [.int (nI 0), .int (nI 0), .int (nI 0), .long (lN 0), .long (lN 0), .long (lN 0), .long (lN 0), .long (lN 0)]) (C := RX4) (T := TX4) (N := 8) hx hb hts hinX40 tyX4 tyX4_ok hown (hts (.classLink RX5 7 RX4) (List.mem_of_getElem? (i := 2) rfl)) (hts (.instantiable RX4 8) (List.mem_of_getElem? (i := 3) rfl)) (hts (.initialized RX4) (List.mem_of_getElem? (i := 4) rfl)) hK.1 hP hD hS hA rfl (fun j hj => by rcases (show j = 0 ∨ j = 1 ∨ j = 2 ∨ j = 3 ∨ j = 4 ∨ j = 5 ∨ j = 6 ∨ j = 7 by omega) with rfl | rfl | rfl | rfl | rfl | rfl | rfl | rfl <;> rfl) (by decide) (by decide) dX5_save_29 (fun zn H hP hD hS => ?_)
        have hP : va_P D vwCl [(g, .inr (3, [.ref pr, .ref sc, .ref sa, .int (nI nS), .ref sl, .ref sch, vW, vT])), (pr, .inr (2, cS S)), (sl, .inl (ca 4, 2, .inr (.inr (.inr (.inr (qo [none, some z1])))))), (z1, .inr (2, cS V1)), (zn, .inr (2, [.int (nI 0), .int (nI 0), .int (nI 0), .long (lN 0), .long (lN 0), .long (lN 0), .long (lN 0), .long (lN 0)]))] H := hP
        have hD : va_D A [(g, .inr (3, [.ref pr, .ref sc, .ref sa, .int (nI nS), .ref sl, .ref sch, vW, vT])), (pr, .inr (2, cS S)), (sl, .inl (ca 4, 2, .inr (.inr (.inr (.inr (qo [none, some z1])))))), (z1, .inr (2, cS V1)), (zn, .inr (2, [.int (nI 0), .int (nI 0), .int (nI 0), .long (lN 0), .long (lN 0), .long (lN 0), .long (lN 0), .long (lN 0)]))] := hD
        refine W.cs (cells' := 1) (slots' := 8) (by decide) (by decide) ?_
        refine lv_dup hx hb dX5_save_32 rfl ?_
        refine uIN (nL := 2) (wr := [(g, .inr (3, [.ref pr, .ref sc, .ref sa, .int (nI nS), .ref sl, .ref sch, vW, vT])), (pr, .inr (2, cS S)), (sl, .inl (ca 4, 2, .inr (.inr (.inr (.inr (qo [none, some z1])))))), (z1, .inr (2, cS V1))]) hx hb hml hown hts hK hA hP hD hS [] [.ref zn, .int (nI 0), .ref sl] (c_X4_init l D ca zn (fun _ => 0)) gX5_save_X4_init_n9 rfl (hts (.initialized RX4) (List.mem_of_getElem? (i := 4) rfl)) (hK.2.2.1 (9, yX4_init) (List.mem_of_getElem? (i := 0) rfl)) (hts (.instanceMethod yX4_init) (List.mem_of_getElem? (i := 6) rfl)) rfl qX4_init ⟨Nat.le_of_ble_eq_true rfl, Nat.le_of_ble_eq_true rfl⟩ [4] [0, 1, 2, 3] rfl rfl (by decide) (by decide) rfl hl.1 (Nat.le_of_ble_eq_true rfl) ⟨Nat.le_of_ble_eq_true rfl, Nat.le_of_ble_eq_true rfl⟩ dX5_save_33 (oneK (wsN := [(g, .inr (3, [.ref pr, .ref sc, .ref sa, .int (nI nS), .ref sl, .ref sch, vW, vT])), (pr, .inr (2, cS S)), (sl, .inl (ca 4, 2, .inr (.inr (.inr (.inr (qo [none, some z1])))))), (z1, .inr (2, cS V1)), (zn, .inr (2, cS ((fun _ => 0))))]) [0, 1, 2, 3, 4] (by decide) rfl (st1 := [.ref zn, .int (nI 0), .ref sl]) rfl 1 8 rfl rfl (fun H locs hP hD hS => ?_))
        refine n_qast (D := D) (ca := ca) hx hb hK.1 hP hD hS 2 4 (f := (qo [none, some z1])) rfl rfl (by omega) (by decide) dX5_save_36 (fun H locs hP hD hS => ?_)
        have hP : va_P D vwCl [(g, .inr (3, [.ref pr, .ref sc, .ref sa, .int (nI nS), .ref sl, .ref sch, vW, vT])), (pr, .inr (2, cS S)), (sl, .inl (ca 4, 2, .inr (.inr (.inr (.inr (va_up (qo [none, some z1]) 0 (some zn))))))), (z1, .inr (2, cS V1)), (zn, .inr (2, cS ((fun _ => 0))))] H := hP
        have hD : va_D A [(g, .inr (3, [.ref pr, .ref sc, .ref sa, .int (nI nS), .ref sl, .ref sch, vW, vT])), (pr, .inr (2, cS S)), (sl, .inl (ca 4, 2, .inr (.inr (.inr (.inr (va_up (qo [none, some z1]) 0 (some zn))))))), (z1, .inr (2, cS V1)), (zn, .inr (2, cS ((fun _ => 0))))] := hD
        rw [show va_up (qo [none, some z1]) 0 (some zn) = qo [some zn, some z1] from qo_up (Nat.le_of_ble_eq_true rfl) rfl] at hP hD
        refine lv_aload_n hx hb dX5_save_37 rfl (lv_at hl 0 rfl) ?_
        refine va_get (D := D) (ci := 3) (v := .ref sl) (C := RX5) (T := TX5) (N := 8) hx hb hts hinX50 hown hK.1 hP 0 rfl rfl 4 (by decide) (hts (.fieldLink RX5 27 "RenamingGrid" "slots" "[LRenamingGrid$State;") (List.mem_of_getElem? (i := 1) rfl)) (fun _ h9 => h9) rfl dX5_save_38 ?_
        refine lv_iload_n hx hb dX5_save_41 rfl (lv_at hl 1 rfl) ?_
        refine n_qald (D := D) (ca := ca) (v := .ref zn) hx hb hK.1 hP 2 (f := (qo [some zn, some z1])) rfl (by omega) (by decide) rfl dX5_save_42 ?_
        refine lv_aload_n hx hb dX5_save_43 rfl (lv_at hl 0 rfl) ?_
        refine va_get (D := D) (ci := 3) (v := .ref pr) (C := RX5) (T := TX5) (N := 8) hx hb hts hinX50 hown hK.1 hP 0 rfl rfl 0 (by decide) (hts (.fieldLink RX5 10 "RenamingGrid" "present" "LRenamingGrid$State;") (List.mem_of_getElem? (i := 5) rfl)) (fun _ h9 => h9) rfl dX5_save_44 ?_
        refine uV (nL := 2) (wr := [(g, .inr (3, [.ref pr, .ref sc, .ref sa, .int (nI nS), .ref sl, .ref sch, vW, vT])), (sl, .inl (ca 4, 2, .inr (.inr (.inr (.inr (qo [some zn, some z1])))))), (z1, .inr (2, cS V1))]) (ci := 2) (q0 := 4) (cq := (RX4, TX4, 8)) hx hb hml hown hts hK hA hP hD hS [.ref pr] [] (c_X4_copyFrom l D ca zn pr ((fun _ => 0)) S) gX5_save_X4_copyFrom rfl ⟨rfl, qX4_copyFrom⟩ ⟨Nat.le_of_ble_eq_true rfl, Nat.le_of_ble_eq_true rfl⟩ rfl rfl [4, 1] [0, 2, 3] rfl rfl (by decide) (by decide) rfl hl.1 (Nat.le_of_ble_eq_true rfl) ⟨Nat.le_of_ble_eq_true rfl, Nat.le_of_ble_eq_true rfl⟩ dX5_save_47 (oneK (wsN := [(g, .inr (3, [.ref pr, .ref sc, .ref sa, .int (nI nS), .ref sl, .ref sch, vW, vT])), (pr, .inr (2, cS S)), (sl, .inl (ca 4, 2, .inr (.inr (.inr (.inr (qo [some zn, some z1])))))), (z1, .inr (2, cS V1)), (zn, .inr (2, cS S))]) [0, 4, 1, 2, 3] (by decide) rfl (st1 := []) rfl 1 8 rfl rfl (fun H locs hP hD hS => ?_))
        refine lv_aload_n hx hb dX5_save_50 rfl (lv_at hl 0 rfl) ?_
        refine va_get (D := D) (ci := 3) (v := .ref pr) (C := RX5) (T := TX5) (N := 8) hx hb hts hinX50 hown hK.1 hP 0 rfl rfl 0 (by decide) (hts (.fieldLink RX5 10 "RenamingGrid" "present" "LRenamingGrid$State;") (List.mem_of_getElem? (i := 5) rfl)) (fun _ h9 => h9) rfl dX5_save_51 ?_
        refine rdV (nL := 2) (ci := 2) (q0 := 1) (cq := (RX4, TX4, 8)) hx hb hml hown hts hK hP [] [] (c_X4_countRunning l D ca pr S hC (show S 1 ≤ 3 by omega)) gX5_save_X4_countRunning rfl ⟨rfl, qX4_countRunning⟩ ⟨Nat.le_of_ble_eq_true rfl, Nat.le_of_ble_eq_true rfl⟩ rfl rfl [1] rfl rfl hl.1 (Nat.le_of_ble_eq_true rfl) ⟨Nat.le_of_ble_eq_true rfl, Nat.le_of_ble_eq_true rfl⟩ dX5_save_54 ?_
        have hP : va_P D vwCl [(g, .inr (3, [.ref pr, .ref sc, .ref sa, .int (nI nS), .ref sl, .ref sch, vW, vT])), (pr, .inr (2, cS S)), (sl, .inl (ca 4, 2, .inr (.inr (.inr (.inr (qo [some zn, some z1])))))), (zn, .inr (2, cS S)), (z1, .inr (2, cS V1))] H := hP.sub [0, 1, 2, 4, 3] rfl
        have hD : va_D A [(g, .inr (3, [.ref pr, .ref sc, .ref sa, .int (nI nS), .ref sl, .ref sch, vW, vT])), (pr, .inr (2, cS S)), (sl, .inl (ca 4, 2, .inr (.inr (.inr (.inr (qo [some zn, some z1])))))), (zn, .inr (2, cS S)), (z1, .inr (2, cS V1))] := hD.sub [0, 1, 2, 4, 3] (by decide) rfl
        exact uRetI hx hb hr hlocks hK hP hD hS (Or.inr (Or.inl ⟨rfl, rfl, zn, rfl⟩)) (Nat.le_of_ble_eq_true rfl) (Nat.le_of_ble_eq_true rfl) dX5_save_57
      · refine lv_aload_n hx hb dX5_save_15 rfl (lv_at hl 0 rfl) ?_
        refine va_get (D := D) (ci := 3) (v := .ref sl) (C := RX5) (T := TX5) (N := 8) hx hb hts hinX50 hown hK.1 hP 0 rfl rfl 4 (by decide) (hts (.fieldLink RX5 27 "RenamingGrid" "slots" "[LRenamingGrid$State;") (List.mem_of_getElem? (i := 1) rfl)) (fun _ h9 => h9) rfl dX5_save_16 ?_
        refine lv_iload_n hx hb dX5_save_19 rfl (lv_at hl 1 rfl) ?_
        refine n_qald (D := D) (ca := ca) (v := .ref z1) hx hb hK.1 hP 2 (f := (qo [none, some z1])) rfl (by omega) (by decide) rfl dX5_save_20 ?_
        refine lv_ifnonnull (tgt := 37) hx hb dX5_save_21 (by decide) ?_
        refine lv_aload_n hx hb dX5_save_37 rfl (lv_at hl 0 rfl) ?_
        refine va_get (D := D) (ci := 3) (v := .ref sl) (C := RX5) (T := TX5) (N := 8) hx hb hts hinX50 hown hK.1 hP 0 rfl rfl 4 (by decide) (hts (.fieldLink RX5 27 "RenamingGrid" "slots" "[LRenamingGrid$State;") (List.mem_of_getElem? (i := 1) rfl)) (fun _ h9 => h9) rfl dX5_save_38 ?_
        refine lv_iload_n hx hb dX5_save_41 rfl (lv_at hl 1 rfl) ?_
        refine n_qald (D := D) (ca := ca) (v := .ref z1) hx hb hK.1 hP 2 (f := (qo [none, some z1])) rfl (by omega) (by decide) rfl dX5_save_42 ?_
        refine lv_aload_n hx hb dX5_save_43 rfl (lv_at hl 0 rfl) ?_
        refine va_get (D := D) (ci := 3) (v := .ref pr) (C := RX5) (T := TX5) (N := 8) hx hb hts hinX50 hown hK.1 hP 0 rfl rfl 0 (by decide) (hts (.fieldLink RX5 10 "RenamingGrid" "present" "LRenamingGrid$State;") (List.mem_of_getElem? (i := 5) rfl)) (fun _ h9 => h9) rfl dX5_save_44 ?_
        refine uV (nL := 2) (wr := [(g, .inr (3, [.ref pr, .ref sc, .ref sa, .int (nI nS), .ref sl, .ref sch, vW, vT])), (sl, .inl (ca 4, 2, .inr (.inr (.inr (.inr (qo [none, some z1]))))))]) (ci := 2) (q0 := 3) (cq := (RX4, TX4, 8)) hx hb hml hown hts hK hA hP hD hS [.ref pr] [] (c_X4_copyFrom l D ca z1 pr V1 S) gX5_save_X4_copyFrom rfl ⟨rfl, qX4_copyFrom⟩ ⟨Nat.le_of_ble_eq_true rfl, Nat.le_of_ble_eq_true rfl⟩ rfl rfl [3, 1] [0, 2] rfl rfl (by decide) (by decide) rfl hl.1 (Nat.le_of_ble_eq_true rfl) ⟨Nat.le_of_ble_eq_true rfl, Nat.le_of_ble_eq_true rfl⟩ dX5_save_47 (oneK (wsN := [(g, .inr (3, [.ref pr, .ref sc, .ref sa, .int (nI nS), .ref sl, .ref sch, vW, vT])), (pr, .inr (2, cS S)), (sl, .inl (ca 4, 2, .inr (.inr (.inr (.inr (qo [none, some z1])))))), (z1, .inr (2, cS S))]) [0, 3, 1, 2] (by decide) rfl (st1 := []) rfl 0 0 rfl rfl (fun H locs hP hD hS => ?_))
        refine lv_aload_n hx hb dX5_save_50 rfl (lv_at hl 0 rfl) ?_
        refine va_get (D := D) (ci := 3) (v := .ref pr) (C := RX5) (T := TX5) (N := 8) hx hb hts hinX50 hown hK.1 hP 0 rfl rfl 0 (by decide) (hts (.fieldLink RX5 10 "RenamingGrid" "present" "LRenamingGrid$State;") (List.mem_of_getElem? (i := 5) rfl)) (fun _ h9 => h9) rfl dX5_save_51 ?_
        refine rdV (nL := 2) (ci := 2) (q0 := 1) (cq := (RX4, TX4, 8)) hx hb hml hown hts hK hP [] [] (c_X4_countRunning l D ca pr S hC (show S 1 ≤ 3 by omega)) gX5_save_X4_countRunning rfl ⟨rfl, qX4_countRunning⟩ ⟨Nat.le_of_ble_eq_true rfl, Nat.le_of_ble_eq_true rfl⟩ rfl rfl [1] rfl rfl hl.1 (Nat.le_of_ble_eq_true rfl) ⟨Nat.le_of_ble_eq_true rfl, Nat.le_of_ble_eq_true rfl⟩ dX5_save_54 ?_
        have hP : va_P D vwCl [(g, .inr (3, [.ref pr, .ref sc, .ref sa, .int (nI nS), .ref sl, .ref sch, vW, vT])), (pr, .inr (2, cS S)), (sl, .inl (ca 4, 2, .inr (.inr (.inr (.inr (qo [none, some z1])))))), (z1, .inr (2, cS S))] H := hP.sub [0, 1, 2, 3] rfl
        have hD : va_D A [(g, .inr (3, [.ref pr, .ref sc, .ref sa, .int (nI nS), .ref sl, .ref sch, vW, vT])), (pr, .inr (2, cS S)), (sl, .inl (ca 4, 2, .inr (.inr (.inr (.inr (qo [none, some z1])))))), (z1, .inr (2, cS S))] := hD.sub [0, 1, 2, 3] (by decide) rfl
        exact uRetI hx hb hr hlocks hK hP hD hS (Or.inr (Or.inr ⟨rfl, rfl, z1, rfl⟩)) (Nat.le_of_ble_eq_true rfl) (Nat.le_of_ble_eq_true rfl) dX5_save_57
    · refine lv_iconst (v := -1) hx hb dX5_save_13 (by decide) ?_
      exact uRetI hx hb hr hlocks hK hP hD hS (Or.inl ⟨fun z => z.2 (lt2n c10), rfl, rfl⟩) (Nat.le_of_ble_eq_true rfl) (Nat.le_of_ble_eq_true rfl) dX5_save_14

set_option maxHeartbeats 4000000 in
set_option maxRecDepth 100000 in
theorem c_X5_restore_01 (l : Launch) (D : va_G) (ca : Nat → ClassId) (g pr sc sa sl sch : Nat) (nS : Nat) (vW vT : Value) (z0 z1 : Nat) (V0 V1 : Nat → Nat) (S : Nat → Nat) (hok : SOK S) (q : Int32) (hok0 : SOK V0) (hok1 : SOK V1) : UP l D ca yX5_restore wsX5_restore 3 65 0 0 [(g, .inr (3, [.ref pr, .ref sc, .ref sa, .int (nI nS), .ref sl, .ref sch, vW, vT])), (pr, .inr (2, cS S)), (sl, .inl (ca 4, 2, .inr (.inr (.inr (.inr (qo [none, some z1])))))), (z1, .inr (2, cS V1))] [.ref g, .int q] (fun v W1 => (¬ inR 2 q ∧ v = some (.int (-1)) ∧ W1 = [(g, .inr (3, [.ref pr, .ref sc, .ref sa, .int (nI nS), .ref sl, .ref sch, vW, vT])), (pr, .inr (2, cS S)), (sl, .inl (ca 4, 2, .inr (.inr (.inr (.inr (qo [none, some z1])))))), (z1, .inr (2, cS V1))]) ∨ (q = nI 0 ∧ v = some (.int (-2)) ∧ W1 = [(g, .inr (3, [.ref pr, .ref sc, .ref sa, .int (nI nS), .ref sl, .ref sch, vW, vT])), (pr, .inr (2, cS S)), (sl, .inl (ca 4, 2, .inr (.inr (.inr (.inr (qo [none, some z1])))))), (z1, .inr (2, cS V1))]) ∨ (q = nI 1 ∧ v = some (.int (nI (runC (V1 3) (V1 1)))) ∧ W1 = [(g, .inr (3, [.ref pr, .ref sc, .ref sa, .int (nI 0), .ref sl, .ref sch, vW, .null])), (pr, .inr (2, cS V1)), (sl, .inl (ca 4, 2, .inr (.inr (.inr (.inr (qo [none, some z1])))))), (z1, .inr (2, cS V1))])) := by
  refine UP.start (cc := cX5_restore) (maxL := 2) (ret := (some .int)) (by decide) rfl (Nat.le_of_ble_eq_true rfl) ?_
  intro p_ e_ s_ m_ below_ meth_ c_ A hx hb hml hr hlocks hin hown hts hK hA hP hD hS ls hl
  have hown : s_.vm.findClass RX5 = some m_.cls := hown
  have hl : lv_has ls 2 [(0, .ref g), (1, .int q)] := hl
  have hinX50 : ∀ w ∈ wsX50, w ∈ wsX5_restore := fun w h => List.mem_cons_of_mem _ (List.mem_append_left _ (List.mem_append_right _ h))
  have hinX40 : ∀ w ∈ wsX40, w ∈ wsX5_restore := fun w h => List.mem_cons_of_mem _ (List.mem_append_right _ h)
  have hC := hok.2.2.2.1
  have hz := hok.1
  have hn3 := hok.2.1
  have hg := hok.2.2.1
  have hnm := nmS_le hok
  have hct := hok.2.2.2.2.2.2.1
  refine lv_iload_n hx hb dX5_restore_0 rfl (lv_at hl 1 rfl) ?_
  refine lv_if_lt (tgt := 13) hx hb dX5_restore_1 (by decide) (fun c1 => ?_) (fun c1 => ?_)
  · refine lv_iconst (v := -1) hx hb dX5_restore_13 (by decide) ?_
    exact uRetI hx hb hr hlocks hK hP hD hS (Or.inl ⟨fun z => z.1 c1, rfl, rfl⟩) (Nat.le_of_ble_eq_true rfl) (Nat.le_of_ble_eq_true rfl) dX5_restore_14
  · refine lv_iload_n hx hb dX5_restore_4 rfl (lv_at hl 1 rfl) ?_
    refine lv_aload_n hx hb dX5_restore_5 rfl (lv_at hl 0 rfl) ?_
    refine va_get (D := D) (ci := 3) (v := .ref sl) (C := RX5) (T := TX5) (N := 8) hx hb hts hinX50 hown hK.1 hP 0 rfl rfl 4 (by decide) (hts (.fieldLink RX5 27 "RenamingGrid" "slots" "[LRenamingGrid$State;") (List.mem_of_getElem? (i := 1) rfl)) (fun _ h9 => h9) rfl dX5_restore_6 ?_
    refine va_alen (D := D) (v := nI 2) hx hb hK.1 hP 2 4 rfl rfl rfl dX5_restore_9 ?_
    refine lv_icmp_lt (tgt := 15) hx hb dX5_restore_10 (by decide) (fun c10 => ?_) (fun c10 => ?_)
    · obtain ⟨j, hj, rfl⟩ := inR_j (n := 2) (by decide) ⟨c1, nlt2 c10⟩
      rcases (show j = 0 ∨ j = 1 by omega) with rfl | rfl
      · refine lv_aload_n hx hb dX5_restore_15 rfl (lv_at hl 0 rfl) ?_
        refine va_get (D := D) (ci := 3) (v := .ref sl) (C := RX5) (T := TX5) (N := 8) hx hb hts hinX50 hown hK.1 hP 0 rfl rfl 4 (by decide) (hts (.fieldLink RX5 27 "RenamingGrid" "slots" "[LRenamingGrid$State;") (List.mem_of_getElem? (i := 1) rfl)) (fun _ h9 => h9) rfl dX5_restore_16 ?_
        refine lv_iload_n hx hb dX5_restore_19 rfl (lv_at hl 1 rfl) ?_
        refine n_qald (D := D) (ca := ca) (v := .null) hx hb hK.1 hP 2 (f := (qo [none, some z1])) rfl (by omega) (by decide) rfl dX5_restore_20 ?_
        refine lv_ifnonnullN hx hb dX5_restore_21 ?_
        refine lv_bipush (v := -2) hx hb dX5_restore_24 (by decide) ?_
        exact uRetI hx hb hr hlocks hK hP hD hS (Or.inr (Or.inl ⟨rfl, rfl, rfl⟩)) (Nat.le_of_ble_eq_true rfl) (Nat.le_of_ble_eq_true rfl) dX5_restore_26
      · refine lv_aload_n hx hb dX5_restore_15 rfl (lv_at hl 0 rfl) ?_
        refine va_get (D := D) (ci := 3) (v := .ref sl) (C := RX5) (T := TX5) (N := 8) hx hb hts hinX50 hown hK.1 hP 0 rfl rfl 4 (by decide) (hts (.fieldLink RX5 27 "RenamingGrid" "slots" "[LRenamingGrid$State;") (List.mem_of_getElem? (i := 1) rfl)) (fun _ h9 => h9) rfl dX5_restore_16 ?_
        refine lv_iload_n hx hb dX5_restore_19 rfl (lv_at hl 1 rfl) ?_
        refine n_qald (D := D) (ca := ca) (v := .ref z1) hx hb hK.1 hP 2 (f := (qo [none, some z1])) rfl (by omega) (by decide) rfl dX5_restore_20 ?_
        refine lv_ifnonnull (tgt := 27) hx hb dX5_restore_21 (by decide) ?_
        refine lv_aload_n hx hb dX5_restore_27 rfl (lv_at hl 0 rfl) ?_
        refine va_get (D := D) (ci := 3) (v := .ref pr) (C := RX5) (T := TX5) (N := 8) hx hb hts hinX50 hown hK.1 hP 0 rfl rfl 0 (by decide) (hts (.fieldLink RX5 10 "RenamingGrid" "present" "LRenamingGrid$State;") (List.mem_of_getElem? (i := 2) rfl)) (fun _ h9 => h9) rfl dX5_restore_28 ?_
        refine lv_aload_n hx hb dX5_restore_31 rfl (lv_at hl 0 rfl) ?_
        refine va_get (D := D) (ci := 3) (v := .ref sl) (C := RX5) (T := TX5) (N := 8) hx hb hts hinX50 hown hK.1 hP 0 rfl rfl 4 (by decide) (hts (.fieldLink RX5 27 "RenamingGrid" "slots" "[LRenamingGrid$State;") (List.mem_of_getElem? (i := 1) rfl)) (fun _ h9 => h9) rfl dX5_restore_32 ?_
        refine lv_iload_n hx hb dX5_restore_35 rfl (lv_at hl 1 rfl) ?_
        refine n_qald (D := D) (ca := ca) (v := .ref z1) hx hb hK.1 hP 2 (f := (qo [none, some z1])) rfl (by omega) (by decide) rfl dX5_restore_36 ?_
        refine uV (nL := 2) (wr := [(g, .inr (3, [.ref pr, .ref sc, .ref sa, .int (nI nS), .ref sl, .ref sch, vW, vT])), (sl, .inl (ca 4, 2, .inr (.inr (.inr (.inr (qo [none, some z1]))))))]) (ci := 2) (q0 := 1) (cq := (RX4, TX4, 8)) hx hb hml hown hts hK hA hP hD hS [.ref z1] [] (c_X4_copyFrom l D ca pr z1 S V1) gX5_restore_X4_copyFrom rfl ⟨rfl, qX4_copyFrom⟩ ⟨Nat.le_of_ble_eq_true rfl, Nat.le_of_ble_eq_true rfl⟩ rfl rfl [1, 3] [0, 2] rfl rfl (by decide) (by decide) rfl hl.1 (Nat.le_of_ble_eq_true rfl) ⟨Nat.le_of_ble_eq_true rfl, Nat.le_of_ble_eq_true rfl⟩ dX5_restore_37 (oneK (wsN := [(g, .inr (3, [.ref pr, .ref sc, .ref sa, .int (nI nS), .ref sl, .ref sch, vW, vT])), (pr, .inr (2, cS V1)), (sl, .inl (ca 4, 2, .inr (.inr (.inr (.inr (qo [none, some z1])))))), (z1, .inr (2, cS V1))]) [0, 2, 1, 3] (by decide) rfl (st1 := []) rfl 0 0 rfl rfl (fun H locs hP hD hS => ?_))
        refine lv_aload_n hx hb dX5_restore_40 rfl (lv_at hl 0 rfl) ?_
        refine lv_iconst (v := nI 0) hx hb dX5_restore_41 (by decide) ?_
        refine va_put (D := D) (ci := 3) (v := .int (nI 0)) (ty := tyX5 3) (C := RX5) (T := TX5) (N := 8) hx hb hts hinX50 tyX5 tyX5_ok nmX5 hown hK.1 hP hD hS 0 rfl rfl 3 (by decide) (hts (.fieldLink RX5 175 "RenamingGrid" "savedCount" "I") (List.mem_of_getElem? (i := 3) rfl)) (fun _ h9 => h9) rfl (tyX5_ok 3 (by decide)) rfl rfl (Nat.le_of_ble_eq_true rfl) dX5_restore_42 (fun H locs hP hD hS => ?_)
        have hP : va_P D vwCl [(g, .inr (3, [.ref pr, .ref sc, .ref sa, .int (nI 0), .ref sl, .ref sch, vW, vT])), (pr, .inr (2, cS V1)), (sl, .inl (ca 4, 2, .inr (.inr (.inr (.inr (qo [none, some z1])))))), (z1, .inr (2, cS V1))] H := hP
        have hD : va_D A [(g, .inr (3, [.ref pr, .ref sc, .ref sa, .int (nI 0), .ref sl, .ref sch, vW, vT])), (pr, .inr (2, cS V1)), (sl, .inl (ca 4, 2, .inr (.inr (.inr (.inr (qo [none, some z1])))))), (z1, .inr (2, cS V1))] := hD
        refine lv_aload_n hx hb dX5_restore_45 rfl (lv_at hl 0 rfl) ?_
        refine lv_null hx hb dX5_restore_46 ?_
        refine va_put (D := D) (ci := 3) (v := .null) (ty := tyX5 7) (C := RX5) (T := TX5) (N := 8) hx hb hts hinX50 tyX5 tyX5_ok nmX5 hown hK.1 hP hD hS 0 rfl rfl 7 (by decide) (hts (.fieldLink RX5 137 "RenamingGrid" "told" "LRenamingGrid$Exploration;") (List.mem_of_getElem? (i := 4) rfl)) (fun _ h9 => h9) rfl (tyX5_ok 7 (by decide)) rfl rfl (Nat.le_of_ble_eq_true rfl) dX5_restore_47 (fun H locs hP hD hS => ?_)
        have hP : va_P D vwCl [(g, .inr (3, [.ref pr, .ref sc, .ref sa, .int (nI 0), .ref sl, .ref sch, vW, .null])), (pr, .inr (2, cS V1)), (sl, .inl (ca 4, 2, .inr (.inr (.inr (.inr (qo [none, some z1])))))), (z1, .inr (2, cS V1))] H := hP
        have hD : va_D A [(g, .inr (3, [.ref pr, .ref sc, .ref sa, .int (nI 0), .ref sl, .ref sch, vW, .null])), (pr, .inr (2, cS V1)), (sl, .inl (ca 4, 2, .inr (.inr (.inr (.inr (qo [none, some z1])))))), (z1, .inr (2, cS V1))] := hD
        refine lv_aload_n hx hb dX5_restore_50 rfl (lv_at hl 0 rfl) ?_
        refine va_get (D := D) (ci := 3) (v := .ref pr) (C := RX5) (T := TX5) (N := 8) hx hb hts hinX50 hown hK.1 hP 0 rfl rfl 0 (by decide) (hts (.fieldLink RX5 10 "RenamingGrid" "present" "LRenamingGrid$State;") (List.mem_of_getElem? (i := 2) rfl)) (fun _ h9 => h9) rfl dX5_restore_51 ?_
        refine rdV (nL := 2) (ci := 2) (q0 := 1) (cq := (RX4, TX4, 8)) hx hb hml hown hts hK hP [] [] (c_X4_countRunning l D ca pr V1 hok1.2.2.2.1 hok1.2.1.2) gX5_restore_X4_countRunning rfl ⟨rfl, qX4_countRunning⟩ ⟨Nat.le_of_ble_eq_true rfl, Nat.le_of_ble_eq_true rfl⟩ rfl rfl [1] rfl rfl hl.1 (Nat.le_of_ble_eq_true rfl) ⟨Nat.le_of_ble_eq_true rfl, Nat.le_of_ble_eq_true rfl⟩ dX5_restore_54 ?_
        exact uRetI hx hb hr hlocks hK hP hD hS (Or.inr (Or.inr ⟨rfl, rfl, rfl⟩)) (Nat.le_of_ble_eq_true rfl) (Nat.le_of_ble_eq_true rfl) dX5_restore_57
    · refine lv_iconst (v := -1) hx hb dX5_restore_13 (by decide) ?_
      exact uRetI hx hb hr hlocks hK hP hD hS (Or.inl ⟨fun z => z.2 (lt2n c10), rfl, rfl⟩) (Nat.le_of_ble_eq_true rfl) (Nat.le_of_ble_eq_true rfl) dX5_restore_14

set_option maxHeartbeats 4000000 in
set_option maxRecDepth 100000 in
theorem c_X5_save_10 (l : Launch) (D : va_G) (ca : Nat → ClassId) (g pr sc sa sl sch : Nat) (nS : Nat) (vW vT : Value) (z0 z1 : Nat) (V0 V1 : Nat → Nat) (S : Nat → Nat) (hok : SOK S) (q : Int32) : UP l D ca yX5_save wsX5_save 3 65 1 8 [(g, .inr (3, [.ref pr, .ref sc, .ref sa, .int (nI nS), .ref sl, .ref sch, vW, vT])), (pr, .inr (2, cS S)), (sl, .inl (ca 4, 2, .inr (.inr (.inr (.inr (qo [some z0, none])))))), (z0, .inr (2, cS V0))] [.ref g, .int q] (fun v W1 => (¬ inR 2 q ∧ v = some (.int (-1)) ∧ W1 = [(g, .inr (3, [.ref pr, .ref sc, .ref sa, .int (nI nS), .ref sl, .ref sch, vW, vT])), (pr, .inr (2, cS S)), (sl, .inl (ca 4, 2, .inr (.inr (.inr (.inr (qo [some z0, none])))))), (z0, .inr (2, cS V0))]) ∨ (q = nI 0 ∧ v = some (.int (nI (runC (S 3) (S 1)))) ∧ ∃ y : Nat, W1 = [(g, .inr (3, [.ref pr, .ref sc, .ref sa, .int (nI nS), .ref sl, .ref sch, vW, vT])), (pr, .inr (2, cS S)), (sl, .inl (ca 4, 2, .inr (.inr (.inr (.inr (qo [some y, none])))))), (y, .inr (2, cS S))]) ∨ (q = nI 1 ∧ v = some (.int (nI (runC (S 3) (S 1)))) ∧ ∃ y : Nat, W1 = [(g, .inr (3, [.ref pr, .ref sc, .ref sa, .int (nI nS), .ref sl, .ref sch, vW, vT])), (pr, .inr (2, cS S)), (sl, .inl (ca 4, 2, .inr (.inr (.inr (.inr (qo [some z0, some y])))))), (z0, .inr (2, cS V0)), (y, .inr (2, cS S))])) := by
  refine UP.start (cc := cX5_save) (maxL := 2) (ret := (some .int)) (by decide) rfl (Nat.le_of_ble_eq_true rfl) ?_
  intro p_ e_ s_ m_ below_ meth_ c_ A hx hb hml hr hlocks hin hown hts hK hA hP hD hS ls hl
  have hown : s_.vm.findClass RX5 = some m_.cls := hown
  have hl : lv_has ls 2 [(0, .ref g), (1, .int q)] := hl
  have hinX50 : ∀ w ∈ wsX50, w ∈ wsX5_save := fun w h => List.mem_cons_of_mem _ (List.mem_append_left _ (List.mem_append_right _ h))
  have hinX40 : ∀ w ∈ wsX40, w ∈ wsX5_save := fun w h => List.mem_cons_of_mem _ (List.mem_append_right _ h)
  have hC := hok.2.2.2.1
  have hz := hok.1
  have hn3 := hok.2.1
  have hg := hok.2.2.1
  have hnm := nmS_le hok
  have hct := hok.2.2.2.2.2.2.1
  refine lv_iload_n hx hb dX5_save_0 rfl (lv_at hl 1 rfl) ?_
  refine lv_if_lt (tgt := 13) hx hb dX5_save_1 (by decide) (fun c1 => ?_) (fun c1 => ?_)
  · refine lv_iconst (v := -1) hx hb dX5_save_13 (by decide) ?_
    exact uRetI hx hb hr hlocks hK hP hD hS (Or.inl ⟨fun z => z.1 c1, rfl, rfl⟩) (Nat.le_of_ble_eq_true rfl) (Nat.le_of_ble_eq_true rfl) dX5_save_14
  · refine lv_iload_n hx hb dX5_save_4 rfl (lv_at hl 1 rfl) ?_
    refine lv_aload_n hx hb dX5_save_5 rfl (lv_at hl 0 rfl) ?_
    refine va_get (D := D) (ci := 3) (v := .ref sl) (C := RX5) (T := TX5) (N := 8) hx hb hts hinX50 hown hK.1 hP 0 rfl rfl 4 (by decide) (hts (.fieldLink RX5 27 "RenamingGrid" "slots" "[LRenamingGrid$State;") (List.mem_of_getElem? (i := 1) rfl)) (fun _ h9 => h9) rfl dX5_save_6 ?_
    refine va_alen (D := D) (v := nI 2) hx hb hK.1 hP 2 4 rfl rfl rfl dX5_save_9 ?_
    refine lv_icmp_lt (tgt := 15) hx hb dX5_save_10 (by decide) (fun c10 => ?_) (fun c10 => ?_)
    · obtain ⟨j, hj, rfl⟩ := inR_j (n := 2) (by decide) ⟨c1, nlt2 c10⟩
      rcases (show j = 0 ∨ j = 1 by omega) with rfl | rfl
      · refine lv_aload_n hx hb dX5_save_15 rfl (lv_at hl 0 rfl) ?_
        refine va_get (D := D) (ci := 3) (v := .ref sl) (C := RX5) (T := TX5) (N := 8) hx hb hts hinX50 hown hK.1 hP 0 rfl rfl 4 (by decide) (hts (.fieldLink RX5 27 "RenamingGrid" "slots" "[LRenamingGrid$State;") (List.mem_of_getElem? (i := 1) rfl)) (fun _ h9 => h9) rfl dX5_save_16 ?_
        refine lv_iload_n hx hb dX5_save_19 rfl (lv_at hl 1 rfl) ?_
        refine n_qald (D := D) (ca := ca) (v := .ref z0) hx hb hK.1 hP 2 (f := (qo [some z0, none])) rfl (by omega) (by decide) rfl dX5_save_20 ?_
        refine lv_ifnonnull (tgt := 37) hx hb dX5_save_21 (by decide) ?_
        refine lv_aload_n hx hb dX5_save_37 rfl (lv_at hl 0 rfl) ?_
        refine va_get (D := D) (ci := 3) (v := .ref sl) (C := RX5) (T := TX5) (N := 8) hx hb hts hinX50 hown hK.1 hP 0 rfl rfl 4 (by decide) (hts (.fieldLink RX5 27 "RenamingGrid" "slots" "[LRenamingGrid$State;") (List.mem_of_getElem? (i := 1) rfl)) (fun _ h9 => h9) rfl dX5_save_38 ?_
        refine lv_iload_n hx hb dX5_save_41 rfl (lv_at hl 1 rfl) ?_
        refine n_qald (D := D) (ca := ca) (v := .ref z0) hx hb hK.1 hP 2 (f := (qo [some z0, none])) rfl (by omega) (by decide) rfl dX5_save_42 ?_
        refine lv_aload_n hx hb dX5_save_43 rfl (lv_at hl 0 rfl) ?_
        refine va_get (D := D) (ci := 3) (v := .ref pr) (C := RX5) (T := TX5) (N := 8) hx hb hts hinX50 hown hK.1 hP 0 rfl rfl 0 (by decide) (hts (.fieldLink RX5 10 "RenamingGrid" "present" "LRenamingGrid$State;") (List.mem_of_getElem? (i := 5) rfl)) (fun _ h9 => h9) rfl dX5_save_44 ?_
        refine uV (nL := 2) (wr := [(g, .inr (3, [.ref pr, .ref sc, .ref sa, .int (nI nS), .ref sl, .ref sch, vW, vT])), (sl, .inl (ca 4, 2, .inr (.inr (.inr (.inr (qo [some z0, none]))))))]) (ci := 2) (q0 := 3) (cq := (RX4, TX4, 8)) hx hb hml hown hts hK hA hP hD hS [.ref pr] [] (c_X4_copyFrom l D ca z0 pr V0 S) gX5_save_X4_copyFrom rfl ⟨rfl, qX4_copyFrom⟩ ⟨Nat.le_of_ble_eq_true rfl, Nat.le_of_ble_eq_true rfl⟩ rfl rfl [3, 1] [0, 2] rfl rfl (by decide) (by decide) rfl hl.1 (Nat.le_of_ble_eq_true rfl) ⟨Nat.le_of_ble_eq_true rfl, Nat.le_of_ble_eq_true rfl⟩ dX5_save_47 (oneK (wsN := [(g, .inr (3, [.ref pr, .ref sc, .ref sa, .int (nI nS), .ref sl, .ref sch, vW, vT])), (pr, .inr (2, cS S)), (sl, .inl (ca 4, 2, .inr (.inr (.inr (.inr (qo [some z0, none])))))), (z0, .inr (2, cS S))]) [0, 3, 1, 2] (by decide) rfl (st1 := []) rfl 0 0 rfl rfl (fun H locs hP hD hS => ?_))
        refine lv_aload_n hx hb dX5_save_50 rfl (lv_at hl 0 rfl) ?_
        refine va_get (D := D) (ci := 3) (v := .ref pr) (C := RX5) (T := TX5) (N := 8) hx hb hts hinX50 hown hK.1 hP 0 rfl rfl 0 (by decide) (hts (.fieldLink RX5 10 "RenamingGrid" "present" "LRenamingGrid$State;") (List.mem_of_getElem? (i := 5) rfl)) (fun _ h9 => h9) rfl dX5_save_51 ?_
        refine rdV (nL := 2) (ci := 2) (q0 := 1) (cq := (RX4, TX4, 8)) hx hb hml hown hts hK hP [] [] (c_X4_countRunning l D ca pr S hC (show S 1 ≤ 3 by omega)) gX5_save_X4_countRunning rfl ⟨rfl, qX4_countRunning⟩ ⟨Nat.le_of_ble_eq_true rfl, Nat.le_of_ble_eq_true rfl⟩ rfl rfl [1] rfl rfl hl.1 (Nat.le_of_ble_eq_true rfl) ⟨Nat.le_of_ble_eq_true rfl, Nat.le_of_ble_eq_true rfl⟩ dX5_save_54 ?_
        have hP : va_P D vwCl [(g, .inr (3, [.ref pr, .ref sc, .ref sa, .int (nI nS), .ref sl, .ref sch, vW, vT])), (pr, .inr (2, cS S)), (sl, .inl (ca 4, 2, .inr (.inr (.inr (.inr (qo [some z0, none])))))), (z0, .inr (2, cS S))] H := hP.sub [0, 1, 2, 3] rfl
        have hD : va_D A [(g, .inr (3, [.ref pr, .ref sc, .ref sa, .int (nI nS), .ref sl, .ref sch, vW, vT])), (pr, .inr (2, cS S)), (sl, .inl (ca 4, 2, .inr (.inr (.inr (.inr (qo [some z0, none])))))), (z0, .inr (2, cS S))] := hD.sub [0, 1, 2, 3] (by decide) rfl
        exact uRetI hx hb hr hlocks hK hP hD hS (Or.inr (Or.inl ⟨rfl, rfl, z0, rfl⟩)) (Nat.le_of_ble_eq_true rfl) (Nat.le_of_ble_eq_true rfl) dX5_save_57
      · refine lv_aload_n hx hb dX5_save_15 rfl (lv_at hl 0 rfl) ?_
        refine va_get (D := D) (ci := 3) (v := .ref sl) (C := RX5) (T := TX5) (N := 8) hx hb hts hinX50 hown hK.1 hP 0 rfl rfl 4 (by decide) (hts (.fieldLink RX5 27 "RenamingGrid" "slots" "[LRenamingGrid$State;") (List.mem_of_getElem? (i := 1) rfl)) (fun _ h9 => h9) rfl dX5_save_16 ?_
        refine lv_iload_n hx hb dX5_save_19 rfl (lv_at hl 1 rfl) ?_
        refine n_qald (D := D) (ca := ca) (v := .null) hx hb hK.1 hP 2 (f := (qo [some z0, none])) rfl (by omega) (by decide) rfl dX5_save_20 ?_
        refine lv_ifnonnullN hx hb dX5_save_21 ?_
        refine lv_aload_n hx hb dX5_save_24 rfl (lv_at hl 0 rfl) ?_
        refine va_get (D := D) (ci := 3) (v := .ref sl) (C := RX5) (T := TX5) (N := 8) hx hb hts hinX50 hown hK.1 hP 0 rfl rfl 4 (by decide) (hts (.fieldLink RX5 27 "RenamingGrid" "slots" "[LRenamingGrid$State;") (List.mem_of_getElem? (i := 1) rfl)) (fun _ h9 => h9) rfl dX5_save_25 ?_
        refine lv_iload_n hx hb dX5_save_28 rfl (lv_at hl 1 rfl) ?_
        refine va_new (D := D) (ci := 2) (fs := [.int (nI 0), .int (nI 0), .int (nI 0), .long (lN 0), .long (lN 0), .long (lN 0), .long (lN 0), .long (lN 0)]) (C := RX4) (T := TX4) (N := 8) hx hb hts hinX40 tyX4 tyX4_ok hown (hts (.classLink RX5 7 RX4) (List.mem_of_getElem? (i := 2) rfl)) (hts (.instantiable RX4 8) (List.mem_of_getElem? (i := 3) rfl)) (hts (.initialized RX4) (List.mem_of_getElem? (i := 4) rfl)) hK.1 hP hD hS hA rfl (fun j hj => by rcases (show j = 0 ∨ j = 1 ∨ j = 2 ∨ j = 3 ∨ j = 4 ∨ j = 5 ∨ j = 6 ∨ j = 7 by omega) with rfl | rfl | rfl | rfl | rfl | rfl | rfl | rfl <;> rfl) (by decide) (by decide) dX5_save_29 (fun zn H hP hD hS => ?_)
        have hP : va_P D vwCl [(g, .inr (3, [.ref pr, .ref sc, .ref sa, .int (nI nS), .ref sl, .ref sch, vW, vT])), (pr, .inr (2, cS S)), (sl, .inl (ca 4, 2, .inr (.inr (.inr (.inr (qo [some z0, none])))))), (z0, .inr (2, cS V0)), (zn, .inr (2, [.int (nI 0), .int (nI 0), .int (nI 0), .long (lN 0), .long (lN 0), .long (lN 0), .long (lN 0), .long (lN 0)]))] H := hP
        have hD : va_D A [(g, .inr (3, [.ref pr, .ref sc, .ref sa, .int (nI nS), .ref sl, .ref sch, vW, vT])), (pr, .inr (2, cS S)), (sl, .inl (ca 4, 2, .inr (.inr (.inr (.inr (qo [some z0, none])))))), (z0, .inr (2, cS V0)), (zn, .inr (2, [.int (nI 0), .int (nI 0), .int (nI 0), .long (lN 0), .long (lN 0), .long (lN 0), .long (lN 0), .long (lN 0)]))] := hD
        refine W.cs (cells' := 1) (slots' := 8) (by decide) (by decide) ?_
        refine lv_dup hx hb dX5_save_32 rfl ?_
        refine uIN (nL := 2) (wr := [(g, .inr (3, [.ref pr, .ref sc, .ref sa, .int (nI nS), .ref sl, .ref sch, vW, vT])), (pr, .inr (2, cS S)), (sl, .inl (ca 4, 2, .inr (.inr (.inr (.inr (qo [some z0, none])))))), (z0, .inr (2, cS V0))]) hx hb hml hown hts hK hA hP hD hS [] [.ref zn, .int (nI 1), .ref sl] (c_X4_init l D ca zn (fun _ => 0)) gX5_save_X4_init_n9 rfl (hts (.initialized RX4) (List.mem_of_getElem? (i := 4) rfl)) (hK.2.2.1 (9, yX4_init) (List.mem_of_getElem? (i := 0) rfl)) (hts (.instanceMethod yX4_init) (List.mem_of_getElem? (i := 6) rfl)) rfl qX4_init ⟨Nat.le_of_ble_eq_true rfl, Nat.le_of_ble_eq_true rfl⟩ [4] [0, 1, 2, 3] rfl rfl (by decide) (by decide) rfl hl.1 (Nat.le_of_ble_eq_true rfl) ⟨Nat.le_of_ble_eq_true rfl, Nat.le_of_ble_eq_true rfl⟩ dX5_save_33 (oneK (wsN := [(g, .inr (3, [.ref pr, .ref sc, .ref sa, .int (nI nS), .ref sl, .ref sch, vW, vT])), (pr, .inr (2, cS S)), (sl, .inl (ca 4, 2, .inr (.inr (.inr (.inr (qo [some z0, none])))))), (z0, .inr (2, cS V0)), (zn, .inr (2, cS ((fun _ => 0))))]) [0, 1, 2, 3, 4] (by decide) rfl (st1 := [.ref zn, .int (nI 1), .ref sl]) rfl 1 8 rfl rfl (fun H locs hP hD hS => ?_))
        refine n_qast (D := D) (ca := ca) hx hb hK.1 hP hD hS 2 4 (f := (qo [some z0, none])) rfl rfl (by omega) (by decide) dX5_save_36 (fun H locs hP hD hS => ?_)
        have hP : va_P D vwCl [(g, .inr (3, [.ref pr, .ref sc, .ref sa, .int (nI nS), .ref sl, .ref sch, vW, vT])), (pr, .inr (2, cS S)), (sl, .inl (ca 4, 2, .inr (.inr (.inr (.inr (va_up (qo [some z0, none]) 1 (some zn))))))), (z0, .inr (2, cS V0)), (zn, .inr (2, cS ((fun _ => 0))))] H := hP
        have hD : va_D A [(g, .inr (3, [.ref pr, .ref sc, .ref sa, .int (nI nS), .ref sl, .ref sch, vW, vT])), (pr, .inr (2, cS S)), (sl, .inl (ca 4, 2, .inr (.inr (.inr (.inr (va_up (qo [some z0, none]) 1 (some zn))))))), (z0, .inr (2, cS V0)), (zn, .inr (2, cS ((fun _ => 0))))] := hD
        rw [show va_up (qo [some z0, none]) 1 (some zn) = qo [some z0, some zn] from qo_up (Nat.le_of_ble_eq_true rfl) rfl] at hP hD
        refine lv_aload_n hx hb dX5_save_37 rfl (lv_at hl 0 rfl) ?_
        refine va_get (D := D) (ci := 3) (v := .ref sl) (C := RX5) (T := TX5) (N := 8) hx hb hts hinX50 hown hK.1 hP 0 rfl rfl 4 (by decide) (hts (.fieldLink RX5 27 "RenamingGrid" "slots" "[LRenamingGrid$State;") (List.mem_of_getElem? (i := 1) rfl)) (fun _ h9 => h9) rfl dX5_save_38 ?_
        refine lv_iload_n hx hb dX5_save_41 rfl (lv_at hl 1 rfl) ?_
        refine n_qald (D := D) (ca := ca) (v := .ref zn) hx hb hK.1 hP 2 (f := (qo [some z0, some zn])) rfl (by omega) (by decide) rfl dX5_save_42 ?_
        refine lv_aload_n hx hb dX5_save_43 rfl (lv_at hl 0 rfl) ?_
        refine va_get (D := D) (ci := 3) (v := .ref pr) (C := RX5) (T := TX5) (N := 8) hx hb hts hinX50 hown hK.1 hP 0 rfl rfl 0 (by decide) (hts (.fieldLink RX5 10 "RenamingGrid" "present" "LRenamingGrid$State;") (List.mem_of_getElem? (i := 5) rfl)) (fun _ h9 => h9) rfl dX5_save_44 ?_
        refine uV (nL := 2) (wr := [(g, .inr (3, [.ref pr, .ref sc, .ref sa, .int (nI nS), .ref sl, .ref sch, vW, vT])), (sl, .inl (ca 4, 2, .inr (.inr (.inr (.inr (qo [some z0, some zn])))))), (z0, .inr (2, cS V0))]) (ci := 2) (q0 := 4) (cq := (RX4, TX4, 8)) hx hb hml hown hts hK hA hP hD hS [.ref pr] [] (c_X4_copyFrom l D ca zn pr ((fun _ => 0)) S) gX5_save_X4_copyFrom rfl ⟨rfl, qX4_copyFrom⟩ ⟨Nat.le_of_ble_eq_true rfl, Nat.le_of_ble_eq_true rfl⟩ rfl rfl [4, 1] [0, 2, 3] rfl rfl (by decide) (by decide) rfl hl.1 (Nat.le_of_ble_eq_true rfl) ⟨Nat.le_of_ble_eq_true rfl, Nat.le_of_ble_eq_true rfl⟩ dX5_save_47 (oneK (wsN := [(g, .inr (3, [.ref pr, .ref sc, .ref sa, .int (nI nS), .ref sl, .ref sch, vW, vT])), (pr, .inr (2, cS S)), (sl, .inl (ca 4, 2, .inr (.inr (.inr (.inr (qo [some z0, some zn])))))), (z0, .inr (2, cS V0)), (zn, .inr (2, cS S))]) [0, 4, 1, 2, 3] (by decide) rfl (st1 := []) rfl 1 8 rfl rfl (fun H locs hP hD hS => ?_))
        refine lv_aload_n hx hb dX5_save_50 rfl (lv_at hl 0 rfl) ?_
        refine va_get (D := D) (ci := 3) (v := .ref pr) (C := RX5) (T := TX5) (N := 8) hx hb hts hinX50 hown hK.1 hP 0 rfl rfl 0 (by decide) (hts (.fieldLink RX5 10 "RenamingGrid" "present" "LRenamingGrid$State;") (List.mem_of_getElem? (i := 5) rfl)) (fun _ h9 => h9) rfl dX5_save_51 ?_
        refine rdV (nL := 2) (ci := 2) (q0 := 1) (cq := (RX4, TX4, 8)) hx hb hml hown hts hK hP [] [] (c_X4_countRunning l D ca pr S hC (show S 1 ≤ 3 by omega)) gX5_save_X4_countRunning rfl ⟨rfl, qX4_countRunning⟩ ⟨Nat.le_of_ble_eq_true rfl, Nat.le_of_ble_eq_true rfl⟩ rfl rfl [1] rfl rfl hl.1 (Nat.le_of_ble_eq_true rfl) ⟨Nat.le_of_ble_eq_true rfl, Nat.le_of_ble_eq_true rfl⟩ dX5_save_54 ?_
        have hP : va_P D vwCl [(g, .inr (3, [.ref pr, .ref sc, .ref sa, .int (nI nS), .ref sl, .ref sch, vW, vT])), (pr, .inr (2, cS S)), (sl, .inl (ca 4, 2, .inr (.inr (.inr (.inr (qo [some z0, some zn])))))), (z0, .inr (2, cS V0)), (zn, .inr (2, cS S))] H := hP.sub [0, 1, 2, 3, 4] rfl
        have hD : va_D A [(g, .inr (3, [.ref pr, .ref sc, .ref sa, .int (nI nS), .ref sl, .ref sch, vW, vT])), (pr, .inr (2, cS S)), (sl, .inl (ca 4, 2, .inr (.inr (.inr (.inr (qo [some z0, some zn])))))), (z0, .inr (2, cS V0)), (zn, .inr (2, cS S))] := hD.sub [0, 1, 2, 3, 4] (by decide) rfl
        exact uRetI hx hb hr hlocks hK hP hD hS (Or.inr (Or.inr ⟨rfl, rfl, zn, rfl⟩)) (Nat.le_of_ble_eq_true rfl) (Nat.le_of_ble_eq_true rfl) dX5_save_57
    · refine lv_iconst (v := -1) hx hb dX5_save_13 (by decide) ?_
      exact uRetI hx hb hr hlocks hK hP hD hS (Or.inl ⟨fun z => z.2 (lt2n c10), rfl, rfl⟩) (Nat.le_of_ble_eq_true rfl) (Nat.le_of_ble_eq_true rfl) dX5_save_14

set_option maxHeartbeats 4000000 in
set_option maxRecDepth 100000 in
theorem c_X5_restore_10 (l : Launch) (D : va_G) (ca : Nat → ClassId) (g pr sc sa sl sch : Nat) (nS : Nat) (vW vT : Value) (z0 z1 : Nat) (V0 V1 : Nat → Nat) (S : Nat → Nat) (hok : SOK S) (q : Int32) (hok0 : SOK V0) (hok1 : SOK V1) : UP l D ca yX5_restore wsX5_restore 3 65 0 0 [(g, .inr (3, [.ref pr, .ref sc, .ref sa, .int (nI nS), .ref sl, .ref sch, vW, vT])), (pr, .inr (2, cS S)), (sl, .inl (ca 4, 2, .inr (.inr (.inr (.inr (qo [some z0, none])))))), (z0, .inr (2, cS V0))] [.ref g, .int q] (fun v W1 => (¬ inR 2 q ∧ v = some (.int (-1)) ∧ W1 = [(g, .inr (3, [.ref pr, .ref sc, .ref sa, .int (nI nS), .ref sl, .ref sch, vW, vT])), (pr, .inr (2, cS S)), (sl, .inl (ca 4, 2, .inr (.inr (.inr (.inr (qo [some z0, none])))))), (z0, .inr (2, cS V0))]) ∨ (q = nI 0 ∧ v = some (.int (nI (runC (V0 3) (V0 1)))) ∧ W1 = [(g, .inr (3, [.ref pr, .ref sc, .ref sa, .int (nI 0), .ref sl, .ref sch, vW, .null])), (pr, .inr (2, cS V0)), (sl, .inl (ca 4, 2, .inr (.inr (.inr (.inr (qo [some z0, none])))))), (z0, .inr (2, cS V0))]) ∨ (q = nI 1 ∧ v = some (.int (-2)) ∧ W1 = [(g, .inr (3, [.ref pr, .ref sc, .ref sa, .int (nI nS), .ref sl, .ref sch, vW, vT])), (pr, .inr (2, cS S)), (sl, .inl (ca 4, 2, .inr (.inr (.inr (.inr (qo [some z0, none])))))), (z0, .inr (2, cS V0))])) := by
  refine UP.start (cc := cX5_restore) (maxL := 2) (ret := (some .int)) (by decide) rfl (Nat.le_of_ble_eq_true rfl) ?_
  intro p_ e_ s_ m_ below_ meth_ c_ A hx hb hml hr hlocks hin hown hts hK hA hP hD hS ls hl
  have hown : s_.vm.findClass RX5 = some m_.cls := hown
  have hl : lv_has ls 2 [(0, .ref g), (1, .int q)] := hl
  have hinX50 : ∀ w ∈ wsX50, w ∈ wsX5_restore := fun w h => List.mem_cons_of_mem _ (List.mem_append_left _ (List.mem_append_right _ h))
  have hinX40 : ∀ w ∈ wsX40, w ∈ wsX5_restore := fun w h => List.mem_cons_of_mem _ (List.mem_append_right _ h)
  have hC := hok.2.2.2.1
  have hz := hok.1
  have hn3 := hok.2.1
  have hg := hok.2.2.1
  have hnm := nmS_le hok
  have hct := hok.2.2.2.2.2.2.1
  refine lv_iload_n hx hb dX5_restore_0 rfl (lv_at hl 1 rfl) ?_
  refine lv_if_lt (tgt := 13) hx hb dX5_restore_1 (by decide) (fun c1 => ?_) (fun c1 => ?_)
  · refine lv_iconst (v := -1) hx hb dX5_restore_13 (by decide) ?_
    exact uRetI hx hb hr hlocks hK hP hD hS (Or.inl ⟨fun z => z.1 c1, rfl, rfl⟩) (Nat.le_of_ble_eq_true rfl) (Nat.le_of_ble_eq_true rfl) dX5_restore_14
  · refine lv_iload_n hx hb dX5_restore_4 rfl (lv_at hl 1 rfl) ?_
    refine lv_aload_n hx hb dX5_restore_5 rfl (lv_at hl 0 rfl) ?_
    refine va_get (D := D) (ci := 3) (v := .ref sl) (C := RX5) (T := TX5) (N := 8) hx hb hts hinX50 hown hK.1 hP 0 rfl rfl 4 (by decide) (hts (.fieldLink RX5 27 "RenamingGrid" "slots" "[LRenamingGrid$State;") (List.mem_of_getElem? (i := 1) rfl)) (fun _ h9 => h9) rfl dX5_restore_6 ?_
    refine va_alen (D := D) (v := nI 2) hx hb hK.1 hP 2 4 rfl rfl rfl dX5_restore_9 ?_
    refine lv_icmp_lt (tgt := 15) hx hb dX5_restore_10 (by decide) (fun c10 => ?_) (fun c10 => ?_)
    · obtain ⟨j, hj, rfl⟩ := inR_j (n := 2) (by decide) ⟨c1, nlt2 c10⟩
      rcases (show j = 0 ∨ j = 1 by omega) with rfl | rfl
      · refine lv_aload_n hx hb dX5_restore_15 rfl (lv_at hl 0 rfl) ?_
        refine va_get (D := D) (ci := 3) (v := .ref sl) (C := RX5) (T := TX5) (N := 8) hx hb hts hinX50 hown hK.1 hP 0 rfl rfl 4 (by decide) (hts (.fieldLink RX5 27 "RenamingGrid" "slots" "[LRenamingGrid$State;") (List.mem_of_getElem? (i := 1) rfl)) (fun _ h9 => h9) rfl dX5_restore_16 ?_
        refine lv_iload_n hx hb dX5_restore_19 rfl (lv_at hl 1 rfl) ?_
        refine n_qald (D := D) (ca := ca) (v := .ref z0) hx hb hK.1 hP 2 (f := (qo [some z0, none])) rfl (by omega) (by decide) rfl dX5_restore_20 ?_
        refine lv_ifnonnull (tgt := 27) hx hb dX5_restore_21 (by decide) ?_
        refine lv_aload_n hx hb dX5_restore_27 rfl (lv_at hl 0 rfl) ?_
        refine va_get (D := D) (ci := 3) (v := .ref pr) (C := RX5) (T := TX5) (N := 8) hx hb hts hinX50 hown hK.1 hP 0 rfl rfl 0 (by decide) (hts (.fieldLink RX5 10 "RenamingGrid" "present" "LRenamingGrid$State;") (List.mem_of_getElem? (i := 2) rfl)) (fun _ h9 => h9) rfl dX5_restore_28 ?_
        refine lv_aload_n hx hb dX5_restore_31 rfl (lv_at hl 0 rfl) ?_
        refine va_get (D := D) (ci := 3) (v := .ref sl) (C := RX5) (T := TX5) (N := 8) hx hb hts hinX50 hown hK.1 hP 0 rfl rfl 4 (by decide) (hts (.fieldLink RX5 27 "RenamingGrid" "slots" "[LRenamingGrid$State;") (List.mem_of_getElem? (i := 1) rfl)) (fun _ h9 => h9) rfl dX5_restore_32 ?_
        refine lv_iload_n hx hb dX5_restore_35 rfl (lv_at hl 1 rfl) ?_
        refine n_qald (D := D) (ca := ca) (v := .ref z0) hx hb hK.1 hP 2 (f := (qo [some z0, none])) rfl (by omega) (by decide) rfl dX5_restore_36 ?_
        refine uV (nL := 2) (wr := [(g, .inr (3, [.ref pr, .ref sc, .ref sa, .int (nI nS), .ref sl, .ref sch, vW, vT])), (sl, .inl (ca 4, 2, .inr (.inr (.inr (.inr (qo [some z0, none]))))))]) (ci := 2) (q0 := 1) (cq := (RX4, TX4, 8)) hx hb hml hown hts hK hA hP hD hS [.ref z0] [] (c_X4_copyFrom l D ca pr z0 S V0) gX5_restore_X4_copyFrom rfl ⟨rfl, qX4_copyFrom⟩ ⟨Nat.le_of_ble_eq_true rfl, Nat.le_of_ble_eq_true rfl⟩ rfl rfl [1, 3] [0, 2] rfl rfl (by decide) (by decide) rfl hl.1 (Nat.le_of_ble_eq_true rfl) ⟨Nat.le_of_ble_eq_true rfl, Nat.le_of_ble_eq_true rfl⟩ dX5_restore_37 (oneK (wsN := [(g, .inr (3, [.ref pr, .ref sc, .ref sa, .int (nI nS), .ref sl, .ref sch, vW, vT])), (pr, .inr (2, cS V0)), (sl, .inl (ca 4, 2, .inr (.inr (.inr (.inr (qo [some z0, none])))))), (z0, .inr (2, cS V0))]) [0, 2, 1, 3] (by decide) rfl (st1 := []) rfl 0 0 rfl rfl (fun H locs hP hD hS => ?_))
        refine lv_aload_n hx hb dX5_restore_40 rfl (lv_at hl 0 rfl) ?_
        refine lv_iconst (v := nI 0) hx hb dX5_restore_41 (by decide) ?_
        refine va_put (D := D) (ci := 3) (v := .int (nI 0)) (ty := tyX5 3) (C := RX5) (T := TX5) (N := 8) hx hb hts hinX50 tyX5 tyX5_ok nmX5 hown hK.1 hP hD hS 0 rfl rfl 3 (by decide) (hts (.fieldLink RX5 175 "RenamingGrid" "savedCount" "I") (List.mem_of_getElem? (i := 3) rfl)) (fun _ h9 => h9) rfl (tyX5_ok 3 (by decide)) rfl rfl (Nat.le_of_ble_eq_true rfl) dX5_restore_42 (fun H locs hP hD hS => ?_)
        have hP : va_P D vwCl [(g, .inr (3, [.ref pr, .ref sc, .ref sa, .int (nI 0), .ref sl, .ref sch, vW, vT])), (pr, .inr (2, cS V0)), (sl, .inl (ca 4, 2, .inr (.inr (.inr (.inr (qo [some z0, none])))))), (z0, .inr (2, cS V0))] H := hP
        have hD : va_D A [(g, .inr (3, [.ref pr, .ref sc, .ref sa, .int (nI 0), .ref sl, .ref sch, vW, vT])), (pr, .inr (2, cS V0)), (sl, .inl (ca 4, 2, .inr (.inr (.inr (.inr (qo [some z0, none])))))), (z0, .inr (2, cS V0))] := hD
        refine lv_aload_n hx hb dX5_restore_45 rfl (lv_at hl 0 rfl) ?_
        refine lv_null hx hb dX5_restore_46 ?_
        refine va_put (D := D) (ci := 3) (v := .null) (ty := tyX5 7) (C := RX5) (T := TX5) (N := 8) hx hb hts hinX50 tyX5 tyX5_ok nmX5 hown hK.1 hP hD hS 0 rfl rfl 7 (by decide) (hts (.fieldLink RX5 137 "RenamingGrid" "told" "LRenamingGrid$Exploration;") (List.mem_of_getElem? (i := 4) rfl)) (fun _ h9 => h9) rfl (tyX5_ok 7 (by decide)) rfl rfl (Nat.le_of_ble_eq_true rfl) dX5_restore_47 (fun H locs hP hD hS => ?_)
        have hP : va_P D vwCl [(g, .inr (3, [.ref pr, .ref sc, .ref sa, .int (nI 0), .ref sl, .ref sch, vW, .null])), (pr, .inr (2, cS V0)), (sl, .inl (ca 4, 2, .inr (.inr (.inr (.inr (qo [some z0, none])))))), (z0, .inr (2, cS V0))] H := hP
        have hD : va_D A [(g, .inr (3, [.ref pr, .ref sc, .ref sa, .int (nI 0), .ref sl, .ref sch, vW, .null])), (pr, .inr (2, cS V0)), (sl, .inl (ca 4, 2, .inr (.inr (.inr (.inr (qo [some z0, none])))))), (z0, .inr (2, cS V0))] := hD
        refine lv_aload_n hx hb dX5_restore_50 rfl (lv_at hl 0 rfl) ?_
        refine va_get (D := D) (ci := 3) (v := .ref pr) (C := RX5) (T := TX5) (N := 8) hx hb hts hinX50 hown hK.1 hP 0 rfl rfl 0 (by decide) (hts (.fieldLink RX5 10 "RenamingGrid" "present" "LRenamingGrid$State;") (List.mem_of_getElem? (i := 2) rfl)) (fun _ h9 => h9) rfl dX5_restore_51 ?_
        refine rdV (nL := 2) (ci := 2) (q0 := 1) (cq := (RX4, TX4, 8)) hx hb hml hown hts hK hP [] [] (c_X4_countRunning l D ca pr V0 hok0.2.2.2.1 hok0.2.1.2) gX5_restore_X4_countRunning rfl ⟨rfl, qX4_countRunning⟩ ⟨Nat.le_of_ble_eq_true rfl, Nat.le_of_ble_eq_true rfl⟩ rfl rfl [1] rfl rfl hl.1 (Nat.le_of_ble_eq_true rfl) ⟨Nat.le_of_ble_eq_true rfl, Nat.le_of_ble_eq_true rfl⟩ dX5_restore_54 ?_
        exact uRetI hx hb hr hlocks hK hP hD hS (Or.inr (Or.inl ⟨rfl, rfl, rfl⟩)) (Nat.le_of_ble_eq_true rfl) (Nat.le_of_ble_eq_true rfl) dX5_restore_57
      · refine lv_aload_n hx hb dX5_restore_15 rfl (lv_at hl 0 rfl) ?_
        refine va_get (D := D) (ci := 3) (v := .ref sl) (C := RX5) (T := TX5) (N := 8) hx hb hts hinX50 hown hK.1 hP 0 rfl rfl 4 (by decide) (hts (.fieldLink RX5 27 "RenamingGrid" "slots" "[LRenamingGrid$State;") (List.mem_of_getElem? (i := 1) rfl)) (fun _ h9 => h9) rfl dX5_restore_16 ?_
        refine lv_iload_n hx hb dX5_restore_19 rfl (lv_at hl 1 rfl) ?_
        refine n_qald (D := D) (ca := ca) (v := .null) hx hb hK.1 hP 2 (f := (qo [some z0, none])) rfl (by omega) (by decide) rfl dX5_restore_20 ?_
        refine lv_ifnonnullN hx hb dX5_restore_21 ?_
        refine lv_bipush (v := -2) hx hb dX5_restore_24 (by decide) ?_
        exact uRetI hx hb hr hlocks hK hP hD hS (Or.inr (Or.inr ⟨rfl, rfl, rfl⟩)) (Nat.le_of_ble_eq_true rfl) (Nat.le_of_ble_eq_true rfl) dX5_restore_26
    · refine lv_iconst (v := -1) hx hb dX5_restore_13 (by decide) ?_
      exact uRetI hx hb hr hlocks hK hP hD hS (Or.inl ⟨fun z => z.2 (lt2n c10), rfl, rfl⟩) (Nat.le_of_ble_eq_true rfl) (Nat.le_of_ble_eq_true rfl) dX5_restore_14

set_option maxHeartbeats 4000000 in
set_option maxRecDepth 100000 in
theorem c_X5_save_11 (l : Launch) (D : va_G) (ca : Nat → ClassId) (g pr sc sa sl sch : Nat) (nS : Nat) (vW vT : Value) (z0 z1 : Nat) (V0 V1 : Nat → Nat) (S : Nat → Nat) (hok : SOK S) (q : Int32) : UP l D ca yX5_save wsX5_save 3 65 1 8 [(g, .inr (3, [.ref pr, .ref sc, .ref sa, .int (nI nS), .ref sl, .ref sch, vW, vT])), (pr, .inr (2, cS S)), (sl, .inl (ca 4, 2, .inr (.inr (.inr (.inr (qo [some z0, some z1])))))), (z0, .inr (2, cS V0)), (z1, .inr (2, cS V1))] [.ref g, .int q] (fun v W1 => (¬ inR 2 q ∧ v = some (.int (-1)) ∧ W1 = [(g, .inr (3, [.ref pr, .ref sc, .ref sa, .int (nI nS), .ref sl, .ref sch, vW, vT])), (pr, .inr (2, cS S)), (sl, .inl (ca 4, 2, .inr (.inr (.inr (.inr (qo [some z0, some z1])))))), (z0, .inr (2, cS V0)), (z1, .inr (2, cS V1))]) ∨ (q = nI 0 ∧ v = some (.int (nI (runC (S 3) (S 1)))) ∧ ∃ y : Nat, W1 = [(g, .inr (3, [.ref pr, .ref sc, .ref sa, .int (nI nS), .ref sl, .ref sch, vW, vT])), (pr, .inr (2, cS S)), (sl, .inl (ca 4, 2, .inr (.inr (.inr (.inr (qo [some y, some z1])))))), (y, .inr (2, cS S)), (z1, .inr (2, cS V1))]) ∨ (q = nI 1 ∧ v = some (.int (nI (runC (S 3) (S 1)))) ∧ ∃ y : Nat, W1 = [(g, .inr (3, [.ref pr, .ref sc, .ref sa, .int (nI nS), .ref sl, .ref sch, vW, vT])), (pr, .inr (2, cS S)), (sl, .inl (ca 4, 2, .inr (.inr (.inr (.inr (qo [some z0, some y])))))), (z0, .inr (2, cS V0)), (y, .inr (2, cS S))])) := by
  refine UP.start (cc := cX5_save) (maxL := 2) (ret := (some .int)) (by decide) rfl (Nat.le_of_ble_eq_true rfl) ?_
  intro p_ e_ s_ m_ below_ meth_ c_ A hx hb hml hr hlocks hin hown hts hK hA hP hD hS ls hl
  have hown : s_.vm.findClass RX5 = some m_.cls := hown
  have hl : lv_has ls 2 [(0, .ref g), (1, .int q)] := hl
  have hinX50 : ∀ w ∈ wsX50, w ∈ wsX5_save := fun w h => List.mem_cons_of_mem _ (List.mem_append_left _ (List.mem_append_right _ h))
  have hinX40 : ∀ w ∈ wsX40, w ∈ wsX5_save := fun w h => List.mem_cons_of_mem _ (List.mem_append_right _ h)
  have hC := hok.2.2.2.1
  have hz := hok.1
  have hn3 := hok.2.1
  have hg := hok.2.2.1
  have hnm := nmS_le hok
  have hct := hok.2.2.2.2.2.2.1
  refine lv_iload_n hx hb dX5_save_0 rfl (lv_at hl 1 rfl) ?_
  refine lv_if_lt (tgt := 13) hx hb dX5_save_1 (by decide) (fun c1 => ?_) (fun c1 => ?_)
  · refine lv_iconst (v := -1) hx hb dX5_save_13 (by decide) ?_
    exact uRetI hx hb hr hlocks hK hP hD hS (Or.inl ⟨fun z => z.1 c1, rfl, rfl⟩) (Nat.le_of_ble_eq_true rfl) (Nat.le_of_ble_eq_true rfl) dX5_save_14
  · refine lv_iload_n hx hb dX5_save_4 rfl (lv_at hl 1 rfl) ?_
    refine lv_aload_n hx hb dX5_save_5 rfl (lv_at hl 0 rfl) ?_
    refine va_get (D := D) (ci := 3) (v := .ref sl) (C := RX5) (T := TX5) (N := 8) hx hb hts hinX50 hown hK.1 hP 0 rfl rfl 4 (by decide) (hts (.fieldLink RX5 27 "RenamingGrid" "slots" "[LRenamingGrid$State;") (List.mem_of_getElem? (i := 1) rfl)) (fun _ h9 => h9) rfl dX5_save_6 ?_
    refine va_alen (D := D) (v := nI 2) hx hb hK.1 hP 2 4 rfl rfl rfl dX5_save_9 ?_
    refine lv_icmp_lt (tgt := 15) hx hb dX5_save_10 (by decide) (fun c10 => ?_) (fun c10 => ?_)
    · obtain ⟨j, hj, rfl⟩ := inR_j (n := 2) (by decide) ⟨c1, nlt2 c10⟩
      rcases (show j = 0 ∨ j = 1 by omega) with rfl | rfl
      · refine lv_aload_n hx hb dX5_save_15 rfl (lv_at hl 0 rfl) ?_
        refine va_get (D := D) (ci := 3) (v := .ref sl) (C := RX5) (T := TX5) (N := 8) hx hb hts hinX50 hown hK.1 hP 0 rfl rfl 4 (by decide) (hts (.fieldLink RX5 27 "RenamingGrid" "slots" "[LRenamingGrid$State;") (List.mem_of_getElem? (i := 1) rfl)) (fun _ h9 => h9) rfl dX5_save_16 ?_
        refine lv_iload_n hx hb dX5_save_19 rfl (lv_at hl 1 rfl) ?_
        refine n_qald (D := D) (ca := ca) (v := .ref z0) hx hb hK.1 hP 2 (f := (qo [some z0, some z1])) rfl (by omega) (by decide) rfl dX5_save_20 ?_
        refine lv_ifnonnull (tgt := 37) hx hb dX5_save_21 (by decide) ?_
        refine lv_aload_n hx hb dX5_save_37 rfl (lv_at hl 0 rfl) ?_
        refine va_get (D := D) (ci := 3) (v := .ref sl) (C := RX5) (T := TX5) (N := 8) hx hb hts hinX50 hown hK.1 hP 0 rfl rfl 4 (by decide) (hts (.fieldLink RX5 27 "RenamingGrid" "slots" "[LRenamingGrid$State;") (List.mem_of_getElem? (i := 1) rfl)) (fun _ h9 => h9) rfl dX5_save_38 ?_
        refine lv_iload_n hx hb dX5_save_41 rfl (lv_at hl 1 rfl) ?_
        refine n_qald (D := D) (ca := ca) (v := .ref z0) hx hb hK.1 hP 2 (f := (qo [some z0, some z1])) rfl (by omega) (by decide) rfl dX5_save_42 ?_
        refine lv_aload_n hx hb dX5_save_43 rfl (lv_at hl 0 rfl) ?_
        refine va_get (D := D) (ci := 3) (v := .ref pr) (C := RX5) (T := TX5) (N := 8) hx hb hts hinX50 hown hK.1 hP 0 rfl rfl 0 (by decide) (hts (.fieldLink RX5 10 "RenamingGrid" "present" "LRenamingGrid$State;") (List.mem_of_getElem? (i := 5) rfl)) (fun _ h9 => h9) rfl dX5_save_44 ?_
        refine uV (nL := 2) (wr := [(g, .inr (3, [.ref pr, .ref sc, .ref sa, .int (nI nS), .ref sl, .ref sch, vW, vT])), (sl, .inl (ca 4, 2, .inr (.inr (.inr (.inr (qo [some z0, some z1])))))), (z1, .inr (2, cS V1))]) (ci := 2) (q0 := 3) (cq := (RX4, TX4, 8)) hx hb hml hown hts hK hA hP hD hS [.ref pr] [] (c_X4_copyFrom l D ca z0 pr V0 S) gX5_save_X4_copyFrom rfl ⟨rfl, qX4_copyFrom⟩ ⟨Nat.le_of_ble_eq_true rfl, Nat.le_of_ble_eq_true rfl⟩ rfl rfl [3, 1] [0, 2, 4] rfl rfl (by decide) (by decide) rfl hl.1 (Nat.le_of_ble_eq_true rfl) ⟨Nat.le_of_ble_eq_true rfl, Nat.le_of_ble_eq_true rfl⟩ dX5_save_47 (oneK (wsN := [(g, .inr (3, [.ref pr, .ref sc, .ref sa, .int (nI nS), .ref sl, .ref sch, vW, vT])), (pr, .inr (2, cS S)), (sl, .inl (ca 4, 2, .inr (.inr (.inr (.inr (qo [some z0, some z1])))))), (z0, .inr (2, cS S)), (z1, .inr (2, cS V1))]) [0, 4, 1, 3, 2] (by decide) rfl (st1 := []) rfl 0 0 rfl rfl (fun H locs hP hD hS => ?_))
        refine lv_aload_n hx hb dX5_save_50 rfl (lv_at hl 0 rfl) ?_
        refine va_get (D := D) (ci := 3) (v := .ref pr) (C := RX5) (T := TX5) (N := 8) hx hb hts hinX50 hown hK.1 hP 0 rfl rfl 0 (by decide) (hts (.fieldLink RX5 10 "RenamingGrid" "present" "LRenamingGrid$State;") (List.mem_of_getElem? (i := 5) rfl)) (fun _ h9 => h9) rfl dX5_save_51 ?_
        refine rdV (nL := 2) (ci := 2) (q0 := 1) (cq := (RX4, TX4, 8)) hx hb hml hown hts hK hP [] [] (c_X4_countRunning l D ca pr S hC (show S 1 ≤ 3 by omega)) gX5_save_X4_countRunning rfl ⟨rfl, qX4_countRunning⟩ ⟨Nat.le_of_ble_eq_true rfl, Nat.le_of_ble_eq_true rfl⟩ rfl rfl [1] rfl rfl hl.1 (Nat.le_of_ble_eq_true rfl) ⟨Nat.le_of_ble_eq_true rfl, Nat.le_of_ble_eq_true rfl⟩ dX5_save_54 ?_
        have hP : va_P D vwCl [(g, .inr (3, [.ref pr, .ref sc, .ref sa, .int (nI nS), .ref sl, .ref sch, vW, vT])), (pr, .inr (2, cS S)), (sl, .inl (ca 4, 2, .inr (.inr (.inr (.inr (qo [some z0, some z1])))))), (z0, .inr (2, cS S)), (z1, .inr (2, cS V1))] H := hP.sub [0, 1, 2, 3, 4] rfl
        have hD : va_D A [(g, .inr (3, [.ref pr, .ref sc, .ref sa, .int (nI nS), .ref sl, .ref sch, vW, vT])), (pr, .inr (2, cS S)), (sl, .inl (ca 4, 2, .inr (.inr (.inr (.inr (qo [some z0, some z1])))))), (z0, .inr (2, cS S)), (z1, .inr (2, cS V1))] := hD.sub [0, 1, 2, 3, 4] (by decide) rfl
        exact uRetI hx hb hr hlocks hK hP hD hS (Or.inr (Or.inl ⟨rfl, rfl, z0, rfl⟩)) (Nat.le_of_ble_eq_true rfl) (Nat.le_of_ble_eq_true rfl) dX5_save_57
      · refine lv_aload_n hx hb dX5_save_15 rfl (lv_at hl 0 rfl) ?_
        refine va_get (D := D) (ci := 3) (v := .ref sl) (C := RX5) (T := TX5) (N := 8) hx hb hts hinX50 hown hK.1 hP 0 rfl rfl 4 (by decide) (hts (.fieldLink RX5 27 "RenamingGrid" "slots" "[LRenamingGrid$State;") (List.mem_of_getElem? (i := 1) rfl)) (fun _ h9 => h9) rfl dX5_save_16 ?_
        refine lv_iload_n hx hb dX5_save_19 rfl (lv_at hl 1 rfl) ?_
        refine n_qald (D := D) (ca := ca) (v := .ref z1) hx hb hK.1 hP 2 (f := (qo [some z0, some z1])) rfl (by omega) (by decide) rfl dX5_save_20 ?_
        refine lv_ifnonnull (tgt := 37) hx hb dX5_save_21 (by decide) ?_
        refine lv_aload_n hx hb dX5_save_37 rfl (lv_at hl 0 rfl) ?_
        refine va_get (D := D) (ci := 3) (v := .ref sl) (C := RX5) (T := TX5) (N := 8) hx hb hts hinX50 hown hK.1 hP 0 rfl rfl 4 (by decide) (hts (.fieldLink RX5 27 "RenamingGrid" "slots" "[LRenamingGrid$State;") (List.mem_of_getElem? (i := 1) rfl)) (fun _ h9 => h9) rfl dX5_save_38 ?_
        refine lv_iload_n hx hb dX5_save_41 rfl (lv_at hl 1 rfl) ?_
        refine n_qald (D := D) (ca := ca) (v := .ref z1) hx hb hK.1 hP 2 (f := (qo [some z0, some z1])) rfl (by omega) (by decide) rfl dX5_save_42 ?_
        refine lv_aload_n hx hb dX5_save_43 rfl (lv_at hl 0 rfl) ?_
        refine va_get (D := D) (ci := 3) (v := .ref pr) (C := RX5) (T := TX5) (N := 8) hx hb hts hinX50 hown hK.1 hP 0 rfl rfl 0 (by decide) (hts (.fieldLink RX5 10 "RenamingGrid" "present" "LRenamingGrid$State;") (List.mem_of_getElem? (i := 5) rfl)) (fun _ h9 => h9) rfl dX5_save_44 ?_
        refine uV (nL := 2) (wr := [(g, .inr (3, [.ref pr, .ref sc, .ref sa, .int (nI nS), .ref sl, .ref sch, vW, vT])), (sl, .inl (ca 4, 2, .inr (.inr (.inr (.inr (qo [some z0, some z1])))))), (z0, .inr (2, cS V0))]) (ci := 2) (q0 := 4) (cq := (RX4, TX4, 8)) hx hb hml hown hts hK hA hP hD hS [.ref pr] [] (c_X4_copyFrom l D ca z1 pr V1 S) gX5_save_X4_copyFrom rfl ⟨rfl, qX4_copyFrom⟩ ⟨Nat.le_of_ble_eq_true rfl, Nat.le_of_ble_eq_true rfl⟩ rfl rfl [4, 1] [0, 2, 3] rfl rfl (by decide) (by decide) rfl hl.1 (Nat.le_of_ble_eq_true rfl) ⟨Nat.le_of_ble_eq_true rfl, Nat.le_of_ble_eq_true rfl⟩ dX5_save_47 (oneK (wsN := [(g, .inr (3, [.ref pr, .ref sc, .ref sa, .int (nI nS), .ref sl, .ref sch, vW, vT])), (pr, .inr (2, cS S)), (sl, .inl (ca 4, 2, .inr (.inr (.inr (.inr (qo [some z0, some z1])))))), (z0, .inr (2, cS V0)), (z1, .inr (2, cS S))]) [0, 4, 1, 2, 3] (by decide) rfl (st1 := []) rfl 0 0 rfl rfl (fun H locs hP hD hS => ?_))
        refine lv_aload_n hx hb dX5_save_50 rfl (lv_at hl 0 rfl) ?_
        refine va_get (D := D) (ci := 3) (v := .ref pr) (C := RX5) (T := TX5) (N := 8) hx hb hts hinX50 hown hK.1 hP 0 rfl rfl 0 (by decide) (hts (.fieldLink RX5 10 "RenamingGrid" "present" "LRenamingGrid$State;") (List.mem_of_getElem? (i := 5) rfl)) (fun _ h9 => h9) rfl dX5_save_51 ?_
        refine rdV (nL := 2) (ci := 2) (q0 := 1) (cq := (RX4, TX4, 8)) hx hb hml hown hts hK hP [] [] (c_X4_countRunning l D ca pr S hC (show S 1 ≤ 3 by omega)) gX5_save_X4_countRunning rfl ⟨rfl, qX4_countRunning⟩ ⟨Nat.le_of_ble_eq_true rfl, Nat.le_of_ble_eq_true rfl⟩ rfl rfl [1] rfl rfl hl.1 (Nat.le_of_ble_eq_true rfl) ⟨Nat.le_of_ble_eq_true rfl, Nat.le_of_ble_eq_true rfl⟩ dX5_save_54 ?_
        have hP : va_P D vwCl [(g, .inr (3, [.ref pr, .ref sc, .ref sa, .int (nI nS), .ref sl, .ref sch, vW, vT])), (pr, .inr (2, cS S)), (sl, .inl (ca 4, 2, .inr (.inr (.inr (.inr (qo [some z0, some z1])))))), (z0, .inr (2, cS V0)), (z1, .inr (2, cS S))] H := hP.sub [0, 1, 2, 3, 4] rfl
        have hD : va_D A [(g, .inr (3, [.ref pr, .ref sc, .ref sa, .int (nI nS), .ref sl, .ref sch, vW, vT])), (pr, .inr (2, cS S)), (sl, .inl (ca 4, 2, .inr (.inr (.inr (.inr (qo [some z0, some z1])))))), (z0, .inr (2, cS V0)), (z1, .inr (2, cS S))] := hD.sub [0, 1, 2, 3, 4] (by decide) rfl
        exact uRetI hx hb hr hlocks hK hP hD hS (Or.inr (Or.inr ⟨rfl, rfl, z1, rfl⟩)) (Nat.le_of_ble_eq_true rfl) (Nat.le_of_ble_eq_true rfl) dX5_save_57
    · refine lv_iconst (v := -1) hx hb dX5_save_13 (by decide) ?_
      exact uRetI hx hb hr hlocks hK hP hD hS (Or.inl ⟨fun z => z.2 (lt2n c10), rfl, rfl⟩) (Nat.le_of_ble_eq_true rfl) (Nat.le_of_ble_eq_true rfl) dX5_save_14

set_option maxHeartbeats 4000000 in
set_option maxRecDepth 100000 in
theorem c_X5_restore_11 (l : Launch) (D : va_G) (ca : Nat → ClassId) (g pr sc sa sl sch : Nat) (nS : Nat) (vW vT : Value) (z0 z1 : Nat) (V0 V1 : Nat → Nat) (S : Nat → Nat) (hok : SOK S) (q : Int32) (hok0 : SOK V0) (hok1 : SOK V1) : UP l D ca yX5_restore wsX5_restore 3 65 0 0 [(g, .inr (3, [.ref pr, .ref sc, .ref sa, .int (nI nS), .ref sl, .ref sch, vW, vT])), (pr, .inr (2, cS S)), (sl, .inl (ca 4, 2, .inr (.inr (.inr (.inr (qo [some z0, some z1])))))), (z0, .inr (2, cS V0)), (z1, .inr (2, cS V1))] [.ref g, .int q] (fun v W1 => (¬ inR 2 q ∧ v = some (.int (-1)) ∧ W1 = [(g, .inr (3, [.ref pr, .ref sc, .ref sa, .int (nI nS), .ref sl, .ref sch, vW, vT])), (pr, .inr (2, cS S)), (sl, .inl (ca 4, 2, .inr (.inr (.inr (.inr (qo [some z0, some z1])))))), (z0, .inr (2, cS V0)), (z1, .inr (2, cS V1))]) ∨ (q = nI 0 ∧ v = some (.int (nI (runC (V0 3) (V0 1)))) ∧ W1 = [(g, .inr (3, [.ref pr, .ref sc, .ref sa, .int (nI 0), .ref sl, .ref sch, vW, .null])), (pr, .inr (2, cS V0)), (sl, .inl (ca 4, 2, .inr (.inr (.inr (.inr (qo [some z0, some z1])))))), (z0, .inr (2, cS V0)), (z1, .inr (2, cS V1))]) ∨ (q = nI 1 ∧ v = some (.int (nI (runC (V1 3) (V1 1)))) ∧ W1 = [(g, .inr (3, [.ref pr, .ref sc, .ref sa, .int (nI 0), .ref sl, .ref sch, vW, .null])), (pr, .inr (2, cS V1)), (sl, .inl (ca 4, 2, .inr (.inr (.inr (.inr (qo [some z0, some z1])))))), (z0, .inr (2, cS V0)), (z1, .inr (2, cS V1))])) := by
  refine UP.start (cc := cX5_restore) (maxL := 2) (ret := (some .int)) (by decide) rfl (Nat.le_of_ble_eq_true rfl) ?_
  intro p_ e_ s_ m_ below_ meth_ c_ A hx hb hml hr hlocks hin hown hts hK hA hP hD hS ls hl
  have hown : s_.vm.findClass RX5 = some m_.cls := hown
  have hl : lv_has ls 2 [(0, .ref g), (1, .int q)] := hl
  have hinX50 : ∀ w ∈ wsX50, w ∈ wsX5_restore := fun w h => List.mem_cons_of_mem _ (List.mem_append_left _ (List.mem_append_right _ h))
  have hinX40 : ∀ w ∈ wsX40, w ∈ wsX5_restore := fun w h => List.mem_cons_of_mem _ (List.mem_append_right _ h)
  have hC := hok.2.2.2.1
  have hz := hok.1
  have hn3 := hok.2.1
  have hg := hok.2.2.1
  have hnm := nmS_le hok
  have hct := hok.2.2.2.2.2.2.1
  refine lv_iload_n hx hb dX5_restore_0 rfl (lv_at hl 1 rfl) ?_
  refine lv_if_lt (tgt := 13) hx hb dX5_restore_1 (by decide) (fun c1 => ?_) (fun c1 => ?_)
  · refine lv_iconst (v := -1) hx hb dX5_restore_13 (by decide) ?_
    exact uRetI hx hb hr hlocks hK hP hD hS (Or.inl ⟨fun z => z.1 c1, rfl, rfl⟩) (Nat.le_of_ble_eq_true rfl) (Nat.le_of_ble_eq_true rfl) dX5_restore_14
  · refine lv_iload_n hx hb dX5_restore_4 rfl (lv_at hl 1 rfl) ?_
    refine lv_aload_n hx hb dX5_restore_5 rfl (lv_at hl 0 rfl) ?_
    refine va_get (D := D) (ci := 3) (v := .ref sl) (C := RX5) (T := TX5) (N := 8) hx hb hts hinX50 hown hK.1 hP 0 rfl rfl 4 (by decide) (hts (.fieldLink RX5 27 "RenamingGrid" "slots" "[LRenamingGrid$State;") (List.mem_of_getElem? (i := 1) rfl)) (fun _ h9 => h9) rfl dX5_restore_6 ?_
    refine va_alen (D := D) (v := nI 2) hx hb hK.1 hP 2 4 rfl rfl rfl dX5_restore_9 ?_
    refine lv_icmp_lt (tgt := 15) hx hb dX5_restore_10 (by decide) (fun c10 => ?_) (fun c10 => ?_)
    · obtain ⟨j, hj, rfl⟩ := inR_j (n := 2) (by decide) ⟨c1, nlt2 c10⟩
      rcases (show j = 0 ∨ j = 1 by omega) with rfl | rfl
      · refine lv_aload_n hx hb dX5_restore_15 rfl (lv_at hl 0 rfl) ?_
        refine va_get (D := D) (ci := 3) (v := .ref sl) (C := RX5) (T := TX5) (N := 8) hx hb hts hinX50 hown hK.1 hP 0 rfl rfl 4 (by decide) (hts (.fieldLink RX5 27 "RenamingGrid" "slots" "[LRenamingGrid$State;") (List.mem_of_getElem? (i := 1) rfl)) (fun _ h9 => h9) rfl dX5_restore_16 ?_
        refine lv_iload_n hx hb dX5_restore_19 rfl (lv_at hl 1 rfl) ?_
        refine n_qald (D := D) (ca := ca) (v := .ref z0) hx hb hK.1 hP 2 (f := (qo [some z0, some z1])) rfl (by omega) (by decide) rfl dX5_restore_20 ?_
        refine lv_ifnonnull (tgt := 27) hx hb dX5_restore_21 (by decide) ?_
        refine lv_aload_n hx hb dX5_restore_27 rfl (lv_at hl 0 rfl) ?_
        refine va_get (D := D) (ci := 3) (v := .ref pr) (C := RX5) (T := TX5) (N := 8) hx hb hts hinX50 hown hK.1 hP 0 rfl rfl 0 (by decide) (hts (.fieldLink RX5 10 "RenamingGrid" "present" "LRenamingGrid$State;") (List.mem_of_getElem? (i := 2) rfl)) (fun _ h9 => h9) rfl dX5_restore_28 ?_
        refine lv_aload_n hx hb dX5_restore_31 rfl (lv_at hl 0 rfl) ?_
        refine va_get (D := D) (ci := 3) (v := .ref sl) (C := RX5) (T := TX5) (N := 8) hx hb hts hinX50 hown hK.1 hP 0 rfl rfl 4 (by decide) (hts (.fieldLink RX5 27 "RenamingGrid" "slots" "[LRenamingGrid$State;") (List.mem_of_getElem? (i := 1) rfl)) (fun _ h9 => h9) rfl dX5_restore_32 ?_
        refine lv_iload_n hx hb dX5_restore_35 rfl (lv_at hl 1 rfl) ?_
        refine n_qald (D := D) (ca := ca) (v := .ref z0) hx hb hK.1 hP 2 (f := (qo [some z0, some z1])) rfl (by omega) (by decide) rfl dX5_restore_36 ?_
        refine uV (nL := 2) (wr := [(g, .inr (3, [.ref pr, .ref sc, .ref sa, .int (nI nS), .ref sl, .ref sch, vW, vT])), (sl, .inl (ca 4, 2, .inr (.inr (.inr (.inr (qo [some z0, some z1])))))), (z1, .inr (2, cS V1))]) (ci := 2) (q0 := 1) (cq := (RX4, TX4, 8)) hx hb hml hown hts hK hA hP hD hS [.ref z0] [] (c_X4_copyFrom l D ca pr z0 S V0) gX5_restore_X4_copyFrom rfl ⟨rfl, qX4_copyFrom⟩ ⟨Nat.le_of_ble_eq_true rfl, Nat.le_of_ble_eq_true rfl⟩ rfl rfl [1, 3] [0, 2, 4] rfl rfl (by decide) (by decide) rfl hl.1 (Nat.le_of_ble_eq_true rfl) ⟨Nat.le_of_ble_eq_true rfl, Nat.le_of_ble_eq_true rfl⟩ dX5_restore_37 (oneK (wsN := [(g, .inr (3, [.ref pr, .ref sc, .ref sa, .int (nI nS), .ref sl, .ref sch, vW, vT])), (pr, .inr (2, cS V0)), (sl, .inl (ca 4, 2, .inr (.inr (.inr (.inr (qo [some z0, some z1])))))), (z0, .inr (2, cS V0)), (z1, .inr (2, cS V1))]) [0, 3, 1, 4, 2] (by decide) rfl (st1 := []) rfl 0 0 rfl rfl (fun H locs hP hD hS => ?_))
        refine lv_aload_n hx hb dX5_restore_40 rfl (lv_at hl 0 rfl) ?_
        refine lv_iconst (v := nI 0) hx hb dX5_restore_41 (by decide) ?_
        refine va_put (D := D) (ci := 3) (v := .int (nI 0)) (ty := tyX5 3) (C := RX5) (T := TX5) (N := 8) hx hb hts hinX50 tyX5 tyX5_ok nmX5 hown hK.1 hP hD hS 0 rfl rfl 3 (by decide) (hts (.fieldLink RX5 175 "RenamingGrid" "savedCount" "I") (List.mem_of_getElem? (i := 3) rfl)) (fun _ h9 => h9) rfl (tyX5_ok 3 (by decide)) rfl rfl (Nat.le_of_ble_eq_true rfl) dX5_restore_42 (fun H locs hP hD hS => ?_)
        have hP : va_P D vwCl [(g, .inr (3, [.ref pr, .ref sc, .ref sa, .int (nI 0), .ref sl, .ref sch, vW, vT])), (pr, .inr (2, cS V0)), (sl, .inl (ca 4, 2, .inr (.inr (.inr (.inr (qo [some z0, some z1])))))), (z0, .inr (2, cS V0)), (z1, .inr (2, cS V1))] H := hP
        have hD : va_D A [(g, .inr (3, [.ref pr, .ref sc, .ref sa, .int (nI 0), .ref sl, .ref sch, vW, vT])), (pr, .inr (2, cS V0)), (sl, .inl (ca 4, 2, .inr (.inr (.inr (.inr (qo [some z0, some z1])))))), (z0, .inr (2, cS V0)), (z1, .inr (2, cS V1))] := hD
        refine lv_aload_n hx hb dX5_restore_45 rfl (lv_at hl 0 rfl) ?_
        refine lv_null hx hb dX5_restore_46 ?_
        refine va_put (D := D) (ci := 3) (v := .null) (ty := tyX5 7) (C := RX5) (T := TX5) (N := 8) hx hb hts hinX50 tyX5 tyX5_ok nmX5 hown hK.1 hP hD hS 0 rfl rfl 7 (by decide) (hts (.fieldLink RX5 137 "RenamingGrid" "told" "LRenamingGrid$Exploration;") (List.mem_of_getElem? (i := 4) rfl)) (fun _ h9 => h9) rfl (tyX5_ok 7 (by decide)) rfl rfl (Nat.le_of_ble_eq_true rfl) dX5_restore_47 (fun H locs hP hD hS => ?_)
        have hP : va_P D vwCl [(g, .inr (3, [.ref pr, .ref sc, .ref sa, .int (nI 0), .ref sl, .ref sch, vW, .null])), (pr, .inr (2, cS V0)), (sl, .inl (ca 4, 2, .inr (.inr (.inr (.inr (qo [some z0, some z1])))))), (z0, .inr (2, cS V0)), (z1, .inr (2, cS V1))] H := hP
        have hD : va_D A [(g, .inr (3, [.ref pr, .ref sc, .ref sa, .int (nI 0), .ref sl, .ref sch, vW, .null])), (pr, .inr (2, cS V0)), (sl, .inl (ca 4, 2, .inr (.inr (.inr (.inr (qo [some z0, some z1])))))), (z0, .inr (2, cS V0)), (z1, .inr (2, cS V1))] := hD
        refine lv_aload_n hx hb dX5_restore_50 rfl (lv_at hl 0 rfl) ?_
        refine va_get (D := D) (ci := 3) (v := .ref pr) (C := RX5) (T := TX5) (N := 8) hx hb hts hinX50 hown hK.1 hP 0 rfl rfl 0 (by decide) (hts (.fieldLink RX5 10 "RenamingGrid" "present" "LRenamingGrid$State;") (List.mem_of_getElem? (i := 2) rfl)) (fun _ h9 => h9) rfl dX5_restore_51 ?_
        refine rdV (nL := 2) (ci := 2) (q0 := 1) (cq := (RX4, TX4, 8)) hx hb hml hown hts hK hP [] [] (c_X4_countRunning l D ca pr V0 hok0.2.2.2.1 hok0.2.1.2) gX5_restore_X4_countRunning rfl ⟨rfl, qX4_countRunning⟩ ⟨Nat.le_of_ble_eq_true rfl, Nat.le_of_ble_eq_true rfl⟩ rfl rfl [1] rfl rfl hl.1 (Nat.le_of_ble_eq_true rfl) ⟨Nat.le_of_ble_eq_true rfl, Nat.le_of_ble_eq_true rfl⟩ dX5_restore_54 ?_
        exact uRetI hx hb hr hlocks hK hP hD hS (Or.inr (Or.inl ⟨rfl, rfl, rfl⟩)) (Nat.le_of_ble_eq_true rfl) (Nat.le_of_ble_eq_true rfl) dX5_restore_57
      · refine lv_aload_n hx hb dX5_restore_15 rfl (lv_at hl 0 rfl) ?_
        refine va_get (D := D) (ci := 3) (v := .ref sl) (C := RX5) (T := TX5) (N := 8) hx hb hts hinX50 hown hK.1 hP 0 rfl rfl 4 (by decide) (hts (.fieldLink RX5 27 "RenamingGrid" "slots" "[LRenamingGrid$State;") (List.mem_of_getElem? (i := 1) rfl)) (fun _ h9 => h9) rfl dX5_restore_16 ?_
        refine lv_iload_n hx hb dX5_restore_19 rfl (lv_at hl 1 rfl) ?_
        refine n_qald (D := D) (ca := ca) (v := .ref z1) hx hb hK.1 hP 2 (f := (qo [some z0, some z1])) rfl (by omega) (by decide) rfl dX5_restore_20 ?_
        refine lv_ifnonnull (tgt := 27) hx hb dX5_restore_21 (by decide) ?_
        refine lv_aload_n hx hb dX5_restore_27 rfl (lv_at hl 0 rfl) ?_
        refine va_get (D := D) (ci := 3) (v := .ref pr) (C := RX5) (T := TX5) (N := 8) hx hb hts hinX50 hown hK.1 hP 0 rfl rfl 0 (by decide) (hts (.fieldLink RX5 10 "RenamingGrid" "present" "LRenamingGrid$State;") (List.mem_of_getElem? (i := 2) rfl)) (fun _ h9 => h9) rfl dX5_restore_28 ?_
        refine lv_aload_n hx hb dX5_restore_31 rfl (lv_at hl 0 rfl) ?_
        refine va_get (D := D) (ci := 3) (v := .ref sl) (C := RX5) (T := TX5) (N := 8) hx hb hts hinX50 hown hK.1 hP 0 rfl rfl 4 (by decide) (hts (.fieldLink RX5 27 "RenamingGrid" "slots" "[LRenamingGrid$State;") (List.mem_of_getElem? (i := 1) rfl)) (fun _ h9 => h9) rfl dX5_restore_32 ?_
        refine lv_iload_n hx hb dX5_restore_35 rfl (lv_at hl 1 rfl) ?_
        refine n_qald (D := D) (ca := ca) (v := .ref z1) hx hb hK.1 hP 2 (f := (qo [some z0, some z1])) rfl (by omega) (by decide) rfl dX5_restore_36 ?_
        refine uV (nL := 2) (wr := [(g, .inr (3, [.ref pr, .ref sc, .ref sa, .int (nI nS), .ref sl, .ref sch, vW, vT])), (sl, .inl (ca 4, 2, .inr (.inr (.inr (.inr (qo [some z0, some z1])))))), (z0, .inr (2, cS V0))]) (ci := 2) (q0 := 1) (cq := (RX4, TX4, 8)) hx hb hml hown hts hK hA hP hD hS [.ref z1] [] (c_X4_copyFrom l D ca pr z1 S V1) gX5_restore_X4_copyFrom rfl ⟨rfl, qX4_copyFrom⟩ ⟨Nat.le_of_ble_eq_true rfl, Nat.le_of_ble_eq_true rfl⟩ rfl rfl [1, 4] [0, 2, 3] rfl rfl (by decide) (by decide) rfl hl.1 (Nat.le_of_ble_eq_true rfl) ⟨Nat.le_of_ble_eq_true rfl, Nat.le_of_ble_eq_true rfl⟩ dX5_restore_37 (oneK (wsN := [(g, .inr (3, [.ref pr, .ref sc, .ref sa, .int (nI nS), .ref sl, .ref sch, vW, vT])), (pr, .inr (2, cS V1)), (sl, .inl (ca 4, 2, .inr (.inr (.inr (.inr (qo [some z0, some z1])))))), (z0, .inr (2, cS V0)), (z1, .inr (2, cS V1))]) [0, 3, 1, 2, 4] (by decide) rfl (st1 := []) rfl 0 0 rfl rfl (fun H locs hP hD hS => ?_))
        refine lv_aload_n hx hb dX5_restore_40 rfl (lv_at hl 0 rfl) ?_
        refine lv_iconst (v := nI 0) hx hb dX5_restore_41 (by decide) ?_
        refine va_put (D := D) (ci := 3) (v := .int (nI 0)) (ty := tyX5 3) (C := RX5) (T := TX5) (N := 8) hx hb hts hinX50 tyX5 tyX5_ok nmX5 hown hK.1 hP hD hS 0 rfl rfl 3 (by decide) (hts (.fieldLink RX5 175 "RenamingGrid" "savedCount" "I") (List.mem_of_getElem? (i := 3) rfl)) (fun _ h9 => h9) rfl (tyX5_ok 3 (by decide)) rfl rfl (Nat.le_of_ble_eq_true rfl) dX5_restore_42 (fun H locs hP hD hS => ?_)
        have hP : va_P D vwCl [(g, .inr (3, [.ref pr, .ref sc, .ref sa, .int (nI 0), .ref sl, .ref sch, vW, vT])), (pr, .inr (2, cS V1)), (sl, .inl (ca 4, 2, .inr (.inr (.inr (.inr (qo [some z0, some z1])))))), (z0, .inr (2, cS V0)), (z1, .inr (2, cS V1))] H := hP
        have hD : va_D A [(g, .inr (3, [.ref pr, .ref sc, .ref sa, .int (nI 0), .ref sl, .ref sch, vW, vT])), (pr, .inr (2, cS V1)), (sl, .inl (ca 4, 2, .inr (.inr (.inr (.inr (qo [some z0, some z1])))))), (z0, .inr (2, cS V0)), (z1, .inr (2, cS V1))] := hD
        refine lv_aload_n hx hb dX5_restore_45 rfl (lv_at hl 0 rfl) ?_
        refine lv_null hx hb dX5_restore_46 ?_
        refine va_put (D := D) (ci := 3) (v := .null) (ty := tyX5 7) (C := RX5) (T := TX5) (N := 8) hx hb hts hinX50 tyX5 tyX5_ok nmX5 hown hK.1 hP hD hS 0 rfl rfl 7 (by decide) (hts (.fieldLink RX5 137 "RenamingGrid" "told" "LRenamingGrid$Exploration;") (List.mem_of_getElem? (i := 4) rfl)) (fun _ h9 => h9) rfl (tyX5_ok 7 (by decide)) rfl rfl (Nat.le_of_ble_eq_true rfl) dX5_restore_47 (fun H locs hP hD hS => ?_)
        have hP : va_P D vwCl [(g, .inr (3, [.ref pr, .ref sc, .ref sa, .int (nI 0), .ref sl, .ref sch, vW, .null])), (pr, .inr (2, cS V1)), (sl, .inl (ca 4, 2, .inr (.inr (.inr (.inr (qo [some z0, some z1])))))), (z0, .inr (2, cS V0)), (z1, .inr (2, cS V1))] H := hP
        have hD : va_D A [(g, .inr (3, [.ref pr, .ref sc, .ref sa, .int (nI 0), .ref sl, .ref sch, vW, .null])), (pr, .inr (2, cS V1)), (sl, .inl (ca 4, 2, .inr (.inr (.inr (.inr (qo [some z0, some z1])))))), (z0, .inr (2, cS V0)), (z1, .inr (2, cS V1))] := hD
        refine lv_aload_n hx hb dX5_restore_50 rfl (lv_at hl 0 rfl) ?_
        refine va_get (D := D) (ci := 3) (v := .ref pr) (C := RX5) (T := TX5) (N := 8) hx hb hts hinX50 hown hK.1 hP 0 rfl rfl 0 (by decide) (hts (.fieldLink RX5 10 "RenamingGrid" "present" "LRenamingGrid$State;") (List.mem_of_getElem? (i := 2) rfl)) (fun _ h9 => h9) rfl dX5_restore_51 ?_
        refine rdV (nL := 2) (ci := 2) (q0 := 1) (cq := (RX4, TX4, 8)) hx hb hml hown hts hK hP [] [] (c_X4_countRunning l D ca pr V1 hok1.2.2.2.1 hok1.2.1.2) gX5_restore_X4_countRunning rfl ⟨rfl, qX4_countRunning⟩ ⟨Nat.le_of_ble_eq_true rfl, Nat.le_of_ble_eq_true rfl⟩ rfl rfl [1] rfl rfl hl.1 (Nat.le_of_ble_eq_true rfl) ⟨Nat.le_of_ble_eq_true rfl, Nat.le_of_ble_eq_true rfl⟩ dX5_restore_54 ?_
        exact uRetI hx hb hr hlocks hK hP hD hS (Or.inr (Or.inr ⟨rfl, rfl, rfl⟩)) (Nat.le_of_ble_eq_true rfl) (Nat.le_of_ble_eq_true rfl) dX5_restore_57
    · refine lv_iconst (v := -1) hx hb dX5_restore_13 (by decide) ?_
      exact uRetI hx hb hr hlocks hK hP hD hS (Or.inl ⟨fun z => z.2 (lt2n c10), rfl, rfl⟩) (Nat.le_of_ble_eq_true rfl) (Nat.le_of_ble_eq_true rfl) dX5_restore_14

set_option maxHeartbeats 4000000 in
set_option maxRecDepth 100000 in
theorem c_X5_explore_t (l : Launch) (D : va_G) (ca : Nat → ClassId) (g pr sc sa sl sch : Nat) (nS : Nat) (vW vT : Value) (S : Nat → Nat) (hok : SOK S) (xa fo pa mo ta ou : Nat) (cnt n : Nat) : UP l D ca yX5_explore wsX5_explore 0 0 0 0 [(g, .inr (3, [.ref pr, .ref sc, .ref sa, .int (nI nS), .ref sl, .ref sch, vW, .ref xa])), (pr, .inr (2, cS S)), (xa, .inr (0, [.ref fo, .ref pa, .ref mo, .ref ta, .ref ou, .int (nI cnt), .int (nI n)]))] [.ref g] (one (some (.int (nI cnt))) [(g, .inr (3, [.ref pr, .ref sc, .ref sa, .int (nI nS), .ref sl, .ref sch, vW, .ref xa])), (pr, .inr (2, cS S)), (xa, .inr (0, [.ref fo, .ref pa, .ref mo, .ref ta, .ref ou, .int (nI cnt), .int (nI n)]))]) := by
  refine UP.start (cc := cX5_explore) (maxL := 1) (ret := (some .int)) (by decide) rfl (Nat.le_of_ble_eq_true rfl) ?_
  intro p_ e_ s_ m_ below_ meth_ c_ A hx hb hml hr hlocks hin hown hts hK hA hP hD hS ls hl
  have hown : s_.vm.findClass RX5 = some m_.cls := hown
  have hl : lv_has ls 1 [(0, .ref g)] := hl
  have hinX50 : ∀ w ∈ wsX50, w ∈ wsX5_explore := fun w h => List.mem_cons_of_mem _ (List.mem_append_left _ (List.mem_append_left _ (List.mem_append_right _ h)))
  have hinX20 : ∀ w ∈ wsX20, w ∈ wsX5_explore := fun w h => List.mem_cons_of_mem _ (List.mem_append_left _ (List.mem_append_right _ h))
  have hinX40 : ∀ w ∈ wsX40, w ∈ wsX5_explore := fun w h => List.mem_cons_of_mem _ (List.mem_append_right _ h)
  refine lv_aload_n hx hb dX5_explore_0 rfl (lv_at hl 0 rfl) ?_
  refine va_get (D := D) (ci := 3) (v := .ref xa) (C := RX5) (T := TX5) (N := 8) hx hb hts hinX50 hown hK.1 hP 0 rfl rfl 7 (by decide) (hts (.fieldLink RX5 137 "RenamingGrid" "told" "LRenamingGrid$Exploration;") (List.mem_of_getElem? (i := 1) rfl)) (fun _ h9 => h9) rfl dX5_explore_1 ?_
  refine lv_ifnull hx hb dX5_explore_4 ?_
  refine lv_aload_n hx hb dX5_explore_7 rfl (lv_at hl 0 rfl) ?_
  refine va_get (D := D) (ci := 3) (v := .ref xa) (C := RX5) (T := TX5) (N := 8) hx hb hts hinX50 hown hK.1 hP 0 rfl rfl 7 (by decide) (hts (.fieldLink RX5 137 "RenamingGrid" "told" "LRenamingGrid$Exploration;") (List.mem_of_getElem? (i := 1) rfl)) (fun _ h9 => h9) rfl dX5_explore_8 ?_
  refine va_getN (D := D) (ci := 0) (v := .int (nI cnt)) (C := RX2) (T := TX2) (N := 7) hx hb hts hinX20 hown hK.1 hP 2 rfl rfl 5 (by decide) (nw10 hK) (fun _ h9 => h9) rfl dX5_explore_11 ?_
  exact uRetI hx hb hr hlocks hK hP hD hS ⟨rfl, rfl⟩ (Nat.le_of_ble_eq_true rfl) (Nat.le_of_ble_eq_true rfl) dX5_explore_14

set_option maxHeartbeats 4000000 in
set_option maxRecDepth 100000 in
theorem c_X5_explore_w (l : Launch) (D : va_G) (ca : Nat → ClassId) (g pr sc sa sl sch : Nat) (nS : Nat) (vW vT : Value) (S : Nat → Nat) (hok : SOK S) (xa fo pa mo ta ou : Nat) (cnt n : Nat) (f : Nat → Int64) (p m : Nat → Int32) (t : Nat → Nat) (o : Nat → Int64) : UP l D ca yX5_explore wsX5_explore 5 132 0 0 [(g, .inr (3, [.ref pr, .ref sc, .ref sa, .int (nI nS), .ref sl, .ref sch, .ref xa, .null])), (pr, .inr (2, cS S)), (xa, .inr (0, [.ref fo, .ref pa, .ref mo, .ref ta, .ref ou, .int (nI cnt), .int (nI n)])), (fo, .inl (ca 1, 4000, .inr (.inl f))), (pa, .inl (ca 0, 4000, .inl p)), (mo, .inl (ca 0, 4000, .inl m)), (ta, .inl (ca 0, 8192, .inl (rwN t))), (ou, .inl (ca 1, 64, .inr (.inl o)))] [.ref g] (fun v W1 => ∃ (f : Nat → Int64) (p m : Nat → Int32) (t : Nat → Nat) (o : Nat → Int64), ((BF S).length ≤ 4000 ∧ v = some (.int (nI (BF S).length)) ∧ EXR (BF S) f p m t (BF S).length ∧ W1 = [(g, .inr (3, [.ref pr, .ref sc, .ref sa, .int (nI nS), .ref sl, .ref sch, .ref xa, .ref xa])), (pr, .inr (2, cS S))] ++ exW ca xa fo pa mo ta ou f p m t (BF S).length (S 1) ++ [(ou, .inl (ca 1, 64, .inr (.inl o)))]) ∨ ((BF S).length = 4001 ∧ v = some (.int (-3)) ∧ ∃ cnt : Nat, W1 = [(g, .inr (3, [.ref pr, .ref sc, .ref sa, .int (nI nS), .ref sl, .ref sch, .ref xa, .null])), (pr, .inr (2, cS S))] ++ exW ca xa fo pa mo ta ou f p m t cnt (S 1) ++ [(ou, .inl (ca 1, 64, .inr (.inl o)))])) := by
  refine UP.start (cc := cX5_explore) (maxL := 1) (ret := (some .int)) (by decide) rfl (Nat.le_of_ble_eq_true rfl) ?_
  intro p_ e_ s_ m_ below_ meth_ c_ A hx hb hml hr hlocks hin hown hts hK hA hP hD hS ls hl
  have hown : s_.vm.findClass RX5 = some m_.cls := hown
  have hl : lv_has ls 1 [(0, .ref g)] := hl
  have hinX50 : ∀ w ∈ wsX50, w ∈ wsX5_explore := fun w h => List.mem_cons_of_mem _ (List.mem_append_left _ (List.mem_append_left _ (List.mem_append_right _ h)))
  have hinX20 : ∀ w ∈ wsX20, w ∈ wsX5_explore := fun w h => List.mem_cons_of_mem _ (List.mem_append_left _ (List.mem_append_right _ h))
  have hinX40 : ∀ w ∈ wsX40, w ∈ wsX5_explore := fun w h => List.mem_cons_of_mem _ (List.mem_append_right _ h)
  refine lv_aload_n hx hb dX5_explore_0 rfl (lv_at hl 0 rfl) ?_
  refine va_get (D := D) (ci := 3) (v := .null) (C := RX5) (T := TX5) (N := 8) hx hb hts hinX50 hown hK.1 hP 0 rfl rfl 7 (by decide) (hts (.fieldLink RX5 137 "RenamingGrid" "told" "LRenamingGrid$Exploration;") (List.mem_of_getElem? (i := 1) rfl)) (fun _ h9 => h9) rfl dX5_explore_1 ?_
  refine lv_ifnullN (tgt := 15) hx hb dX5_explore_4 (by decide) ?_
  refine lv_aload_n hx hb dX5_explore_15 rfl (lv_at hl 0 rfl) ?_
  refine va_get (D := D) (ci := 3) (v := .ref xa) (C := RX5) (T := TX5) (N := 8) hx hb hts hinX50 hown hK.1 hP 0 rfl rfl 6 (by decide) (hts (.fieldLink RX5 146 "RenamingGrid" "workspace" "LRenamingGrid$Exploration;") (List.mem_of_getElem? (i := 2) rfl)) (fun _ h9 => h9) rfl dX5_explore_16 ?_
  refine lv_ifnonnull (tgt := 33) hx hb dX5_explore_19 (by decide) ?_
  refine lv_aload_n hx hb dX5_explore_33 rfl (lv_at hl 0 rfl) ?_
  refine va_get (D := D) (ci := 3) (v := .ref xa) (C := RX5) (T := TX5) (N := 8) hx hb hts hinX50 hown hK.1 hP 0 rfl rfl 6 (by decide) (hts (.fieldLink RX5 146 "RenamingGrid" "workspace" "LRenamingGrid$Exploration;") (List.mem_of_getElem? (i := 2) rfl)) (fun _ h9 => h9) rfl dX5_explore_34 ?_
  refine lv_aload_n hx hb dX5_explore_37 rfl (lv_at hl 0 rfl) ?_
  refine va_get (D := D) (ci := 3) (v := .ref pr) (C := RX5) (T := TX5) (N := 8) hx hb hts hinX50 hown hK.1 hP 0 rfl rfl 0 (by decide) (hts (.fieldLink RX5 10 "RenamingGrid" "present" "LRenamingGrid$State;") (List.mem_of_getElem? (i := 6) rfl)) (fun _ h9 => h9) rfl dX5_explore_38 ?_
  refine uV (nL := 1) (wr := [(g, .inr (3, [.ref pr, .ref sc, .ref sa, .int (nI nS), .ref sl, .ref sch, .ref xa, .null])), (ou, .inl (ca 1, 64, .inr (.inl o)))]) (ci := 0) (q0 := 2) (cq := (RX2, TX2, 7)) hx hb hml hown hts hK hA hP hD hS [.ref pr] [] (c_X2_findAllFrom l D ca xa fo pa mo ta ou pr cnt n f p m t S hok) gX5_explore_X2_findAllFrom rfl ⟨rfl, qX2_findAllFrom⟩ ⟨Nat.le_of_ble_eq_true rfl, Nat.le_of_ble_eq_true rfl⟩ rfl rfl [2, 3, 4, 5, 6, 1] [0, 7] rfl rfl (by decide) (by decide) rfl hl.1 (Nat.le_of_ble_eq_true rfl) ⟨Nat.le_of_ble_eq_true rfl, Nat.le_of_ble_eq_true rfl⟩ dX5_explore_41 (fun v1 W1 H locs hO hP hD hS => ?_)
  obtain ⟨f2, p2, m2, t2, k2, rfl, hor⟩ := hO
  rcases hor with ⟨rfl, hx2⟩ | ⟨rfl, hx2⟩
  · obtain ⟨hR2, hH2, hc2, hB2⟩ := hx2
    subst hc2
    have hP : va_P D vwCl [(g, .inr (3, [.ref pr, .ref sc, .ref sa, .int (nI nS), .ref sl, .ref sch, .ref xa, .null])), (pr, .inr (2, cS S)), (xa, .inr (0, [.ref fo, .ref pa, .ref mo, .ref ta, .ref ou, .int (nI ((BF S).length)), .int (nI ((S 1)))])), (fo, .inl (ca 1, 4000, .inr (.inl f2))), (pa, .inl (ca 0, 4000, .inl p2)), (mo, .inl (ca 0, 4000, .inl m2)), (ta, .inl (ca 0, 8192, .inl (rwN t2))), (ou, .inl (ca 1, 64, .inr (.inl o)))] H := hP.sub [0, 7, 2, 3, 4, 5, 6, 1] rfl
    have hD : va_D A [(g, .inr (3, [.ref pr, .ref sc, .ref sa, .int (nI nS), .ref sl, .ref sch, .ref xa, .null])), (pr, .inr (2, cS S)), (xa, .inr (0, [.ref fo, .ref pa, .ref mo, .ref ta, .ref ou, .int (nI ((BF S).length)), .int (nI ((S 1)))])), (fo, .inl (ca 1, 4000, .inr (.inl f2))), (pa, .inl (ca 0, 4000, .inl p2)), (mo, .inl (ca 0, 4000, .inl m2)), (ta, .inl (ca 0, 8192, .inl (rwN t2))), (ou, .inl (ca 1, 64, .inr (.inl o)))] := hD.sub [0, 7, 2, 3, 4, 5, 6, 1] (by decide) rfl
    refine W.eq (g2 := F0 m_ 44 ls [.int (nI 1)]) rfl ?_
    refine n_if_ne (tgt := 50) hx hb dX5_explore_44 (by decide) (by decide) (fun _ => ?_) (fun q => absurd q (by decide))
    refine lv_aload_n hx hb dX5_explore_50 rfl (lv_at hl 0 rfl) ?_
    refine lv_aload_n hx hb dX5_explore_51 rfl (lv_at hl 0 rfl) ?_
    refine va_get (D := D) (ci := 3) (v := .ref xa) (C := RX5) (T := TX5) (N := 8) hx hb hts hinX50 hown hK.1 hP 0 rfl rfl 6 (by decide) (hts (.fieldLink RX5 146 "RenamingGrid" "workspace" "LRenamingGrid$Exploration;") (List.mem_of_getElem? (i := 2) rfl)) (fun _ h9 => h9) rfl dX5_explore_52 ?_
    refine va_put (D := D) (ci := 3) (v := .ref xa) (ty := tyX5 7) (C := RX5) (T := TX5) (N := 8) hx hb hts hinX50 tyX5 tyX5_ok nmX5 hown hK.1 hP hD hS 0 rfl rfl 7 (by decide) (hts (.fieldLink RX5 137 "RenamingGrid" "told" "LRenamingGrid$Exploration;") (List.mem_of_getElem? (i := 1) rfl)) (fun _ h9 => h9) rfl (tyX5_ok 7 (by decide)) rfl rfl (Nat.le_of_ble_eq_true rfl) dX5_explore_55 (fun H locs hP hD hS => ?_)
    have hP : va_P D vwCl [(g, .inr (3, [.ref pr, .ref sc, .ref sa, .int (nI nS), .ref sl, .ref sch, .ref xa, .ref xa])), (pr, .inr (2, cS S)), (xa, .inr (0, [.ref fo, .ref pa, .ref mo, .ref ta, .ref ou, .int (nI ((BF S).length)), .int (nI ((S 1)))])), (fo, .inl (ca 1, 4000, .inr (.inl f2))), (pa, .inl (ca 0, 4000, .inl p2)), (mo, .inl (ca 0, 4000, .inl m2)), (ta, .inl (ca 0, 8192, .inl (rwN t2))), (ou, .inl (ca 1, 64, .inr (.inl o)))] H := hP
    have hD : va_D A [(g, .inr (3, [.ref pr, .ref sc, .ref sa, .int (nI nS), .ref sl, .ref sch, .ref xa, .ref xa])), (pr, .inr (2, cS S)), (xa, .inr (0, [.ref fo, .ref pa, .ref mo, .ref ta, .ref ou, .int (nI ((BF S).length)), .int (nI ((S 1)))])), (fo, .inl (ca 1, 4000, .inr (.inl f2))), (pa, .inl (ca 0, 4000, .inl p2)), (mo, .inl (ca 0, 4000, .inl m2)), (ta, .inl (ca 0, 8192, .inl (rwN t2))), (ou, .inl (ca 1, 64, .inr (.inl o)))] := hD
    refine lv_aload_n hx hb dX5_explore_58 rfl (lv_at hl 0 rfl) ?_
    refine va_get (D := D) (ci := 3) (v := .ref xa) (C := RX5) (T := TX5) (N := 8) hx hb hts hinX50 hown hK.1 hP 0 rfl rfl 7 (by decide) (hts (.fieldLink RX5 137 "RenamingGrid" "told" "LRenamingGrid$Exploration;") (List.mem_of_getElem? (i := 1) rfl)) (fun _ h9 => h9) rfl dX5_explore_59 ?_
    refine va_getN (D := D) (ci := 0) (v := .int (nI ((BF S).length))) (C := RX2) (T := TX2) (N := 7) hx hb hts hinX20 hown hK.1 hP 2 rfl rfl 5 (by decide) (nw10 hK) (fun _ h9 => h9) rfl dX5_explore_62 ?_
    exact uRetI hx hb hr hlocks hK hP hD hS ⟨f2, p2, m2, t2, o, Or.inl ⟨hB2, rfl, ⟨hR2, hH2, rfl, hB2⟩, rfl⟩⟩ (Nat.le_of_ble_eq_true rfl) (Nat.le_of_ble_eq_true rfl) dX5_explore_65
  · have hP : va_P D vwCl [(g, .inr (3, [.ref pr, .ref sc, .ref sa, .int (nI nS), .ref sl, .ref sch, .ref xa, .null])), (pr, .inr (2, cS S)), (xa, .inr (0, [.ref fo, .ref pa, .ref mo, .ref ta, .ref ou, .int (nI k2), .int (nI ((S 1)))])), (fo, .inl (ca 1, 4000, .inr (.inl f2))), (pa, .inl (ca 0, 4000, .inl p2)), (mo, .inl (ca 0, 4000, .inl m2)), (ta, .inl (ca 0, 8192, .inl (rwN t2))), (ou, .inl (ca 1, 64, .inr (.inl o)))] H := hP.sub [0, 7, 2, 3, 4, 5, 6, 1] rfl
    have hD : va_D A [(g, .inr (3, [.ref pr, .ref sc, .ref sa, .int (nI nS), .ref sl, .ref sch, .ref xa, .null])), (pr, .inr (2, cS S)), (xa, .inr (0, [.ref fo, .ref pa, .ref mo, .ref ta, .ref ou, .int (nI k2), .int (nI ((S 1)))])), (fo, .inl (ca 1, 4000, .inr (.inl f2))), (pa, .inl (ca 0, 4000, .inl p2)), (mo, .inl (ca 0, 4000, .inl m2)), (ta, .inl (ca 0, 8192, .inl (rwN t2))), (ou, .inl (ca 1, 64, .inr (.inl o)))] := hD.sub [0, 7, 2, 3, 4, 5, 6, 1] (by decide) rfl
    refine W.eq (g2 := F0 m_ 44 ls [.int (nI 0)]) rfl ?_
    refine n_if_ne (tgt := 50) hx hb dX5_explore_44 (by decide) (by decide) (fun q => absurd q (by decide)) (fun _ => ?_)
    refine lv_bipush (v := -3) hx hb dX5_explore_47 (by decide) ?_
    exact uRetI hx hb hr hlocks hK hP hD hS ⟨f2, p2, m2, t2, o, Or.inr ⟨hx2, rfl, k2, rfl⟩⟩ (Nat.le_of_ble_eq_true rfl) (Nat.le_of_ble_eq_true rfl) dX5_explore_49

set_option maxHeartbeats 4000000 in
set_option maxRecDepth 100000 in
theorem c_X5_explore_n (l : Launch) (D : va_G) (ca : Nat → ClassId) (g pr sc sa sl sch : Nat) (nS : Nat) (vW vT : Value) (S : Nat → Nat) (hok : SOK S) : UP l D ca yX5_explore wsX5_explore 5 132 6 20263 [(g, .inr (3, [.ref pr, .ref sc, .ref sa, .int (nI nS), .ref sl, .ref sch, .null, .null])), (pr, .inr (2, cS S))] [.ref g] (fun v W1 => ∃ (xa fo pa mo ta ou : Nat) (f : Nat → Int64) (p m : Nat → Int32) (t : Nat → Nat) (o : Nat → Int64), ((BF S).length ≤ 4000 ∧ v = some (.int (nI (BF S).length)) ∧ EXR (BF S) f p m t (BF S).length ∧ W1 = [(g, .inr (3, [.ref pr, .ref sc, .ref sa, .int (nI nS), .ref sl, .ref sch, .ref xa, .ref xa])), (pr, .inr (2, cS S))] ++ exW ca xa fo pa mo ta ou f p m t (BF S).length (S 1) ++ [(ou, .inl (ca 1, 64, .inr (.inl o)))]) ∨ ((BF S).length = 4001 ∧ v = some (.int (-3)) ∧ ∃ cnt : Nat, W1 = [(g, .inr (3, [.ref pr, .ref sc, .ref sa, .int (nI nS), .ref sl, .ref sch, .ref xa, .null])), (pr, .inr (2, cS S))] ++ exW ca xa fo pa mo ta ou f p m t cnt (S 1) ++ [(ou, .inl (ca 1, 64, .inr (.inl o)))])) := by
  refine UP.start (cc := cX5_explore) (maxL := 1) (ret := (some .int)) (by decide) rfl (Nat.le_of_ble_eq_true rfl) ?_
  intro p_ e_ s_ m_ below_ meth_ c_ A hx hb hml hr hlocks hin hown hts hK hA hP hD hS ls hl
  have hown : s_.vm.findClass RX5 = some m_.cls := hown
  have hl : lv_has ls 1 [(0, .ref g)] := hl
  have hinX50 : ∀ w ∈ wsX50, w ∈ wsX5_explore := fun w h => List.mem_cons_of_mem _ (List.mem_append_left _ (List.mem_append_left _ (List.mem_append_right _ h)))
  have hinX20 : ∀ w ∈ wsX20, w ∈ wsX5_explore := fun w h => List.mem_cons_of_mem _ (List.mem_append_left _ (List.mem_append_right _ h))
  have hinX40 : ∀ w ∈ wsX40, w ∈ wsX5_explore := fun w h => List.mem_cons_of_mem _ (List.mem_append_right _ h)
  refine lv_aload_n hx hb dX5_explore_0 rfl (lv_at hl 0 rfl) ?_
  refine va_get (D := D) (ci := 3) (v := .null) (C := RX5) (T := TX5) (N := 8) hx hb hts hinX50 hown hK.1 hP 0 rfl rfl 7 (by decide) (hts (.fieldLink RX5 137 "RenamingGrid" "told" "LRenamingGrid$Exploration;") (List.mem_of_getElem? (i := 1) rfl)) (fun _ h9 => h9) rfl dX5_explore_1 ?_
  refine lv_ifnullN (tgt := 15) hx hb dX5_explore_4 (by decide) ?_
  refine lv_aload_n hx hb dX5_explore_15 rfl (lv_at hl 0 rfl) ?_
  refine va_get (D := D) (ci := 3) (v := .null) (C := RX5) (T := TX5) (N := 8) hx hb hts hinX50 hown hK.1 hP 0 rfl rfl 6 (by decide) (hts (.fieldLink RX5 146 "RenamingGrid" "workspace" "LRenamingGrid$Exploration;") (List.mem_of_getElem? (i := 2) rfl)) (fun _ h9 => h9) rfl dX5_explore_16 ?_
  refine lv_ifnonnullN hx hb dX5_explore_19 ?_
  refine lv_aload_n hx hb dX5_explore_22 rfl (lv_at hl 0 rfl) ?_
  refine va_new (D := D) (ci := 0) (fs := [.null, .null, .null, .null, .null, .int (nI 0), .int (nI 0)]) (C := RX2) (T := TX2) (N := 7) hx hb hts hinX20 tyX2 tyX2_ok hown (hts (.classLink RX5 142 RX2) (List.mem_of_getElem? (i := 3) rfl)) (hts (.instantiable RX2 7) (List.mem_of_getElem? (i := 4) rfl)) (hts (.initialized RX2) (List.mem_of_getElem? (i := 5) rfl)) hK.1 hP hD hS hA rfl (fun j hj => by rcases (show j = 0 ∨ j = 1 ∨ j = 2 ∨ j = 3 ∨ j = 4 ∨ j = 5 ∨ j = 6 by omega) with rfl | rfl | rfl | rfl | rfl | rfl | rfl <;> rfl) (by decide) (by decide) dX5_explore_23 (fun xa H hP hD hS => ?_)
  have hP : va_P D vwCl [(g, .inr (3, [.ref pr, .ref sc, .ref sa, .int (nI nS), .ref sl, .ref sch, .null, .null])), (pr, .inr (2, cS S)), (xa, .inr (0, [.null, .null, .null, .null, .null, .int (nI 0), .int (nI 0)]))] H := hP
  have hD : va_D A [(g, .inr (3, [.ref pr, .ref sc, .ref sa, .int (nI nS), .ref sl, .ref sch, .null, .null])), (pr, .inr (2, cS S)), (xa, .inr (0, [.null, .null, .null, .null, .null, .int (nI 0), .int (nI 0)]))] := hD
  refine W.cs (cells' := 1) (slots' := 7) (by decide) (by decide) ?_
  refine lv_dup hx hb dX5_explore_26 rfl ?_
  refine uIN (nL := 1) (wr := [(g, .inr (3, [.ref pr, .ref sc, .ref sa, .int (nI nS), .ref sl, .ref sch, .null, .null])), (pr, .inr (2, cS S))]) hx hb hml hown hts hK hA hP hD hS [] [.ref xa, .ref g] (c_X2_init l D ca xa) gX5_explore_X2_init_n149 rfl (hts (.initialized RX2) (List.mem_of_getElem? (i := 5) rfl)) (hK.2.2.1 (149, yX2_init) (List.mem_of_getElem? (i := 2) rfl)) (hts (.instanceMethod yX2_init) (List.mem_of_getElem? (i := 7) rfl)) rfl qX2_init ⟨Nat.le_of_ble_eq_true rfl, Nat.le_of_ble_eq_true rfl⟩ [2] [0, 1] rfl rfl (by decide) (by decide) rfl hl.1 (Nat.le_of_ble_eq_true rfl) ⟨Nat.le_of_ble_eq_true rfl, Nat.le_of_ble_eq_true rfl⟩ dX5_explore_27 (fun v1 W1 H locs hO hP hD hS => ?_)
  obtain ⟨rfl, fo, pa, mo, ta, ou, rfl⟩ := hO
  obtain ⟨o, ho⟩ : ∃ o : Nat → Int64, o = fun _ => 0 := ⟨_, rfl⟩
  rw [← ho] at hP hD
  have hP : va_P D vwCl [(g, .inr (3, [.ref pr, .ref sc, .ref sa, .int (nI nS), .ref sl, .ref sch, .null, .null])), (pr, .inr (2, cS S)), (xa, .inr (0, [.ref fo, .ref pa, .ref mo, .ref ta, .ref ou, .int (nI 0), .int (nI 0)])), (fo, .inl (ca 1, 4000, .inr (.inl o))), (pa, .inl (ca 0, 4000, .inl ((fun _ => 0)))), (mo, .inl (ca 0, 4000, .inl ((fun _ => 0)))), (ta, .inl (ca 0, 8192, .inl (rwN ((fun _ => 0))))), (ou, .inl (ca 1, 64, .inr (.inl o)))] H := hP.sub [0, 1, 2, 3, 4, 5, 6, 7] rfl
  have hD : va_D A [(g, .inr (3, [.ref pr, .ref sc, .ref sa, .int (nI nS), .ref sl, .ref sch, .null, .null])), (pr, .inr (2, cS S)), (xa, .inr (0, [.ref fo, .ref pa, .ref mo, .ref ta, .ref ou, .int (nI 0), .int (nI 0)])), (fo, .inl (ca 1, 4000, .inr (.inl o))), (pa, .inl (ca 0, 4000, .inl ((fun _ => 0)))), (mo, .inl (ca 0, 4000, .inl ((fun _ => 0)))), (ta, .inl (ca 0, 8192, .inl (rwN ((fun _ => 0))))), (ou, .inl (ca 1, 64, .inr (.inl o)))] := hD.sub [0, 1, 2, 3, 4, 5, 6, 7] (by decide) rfl
  refine W.eq (g2 := F0 m_ 30 ls [.ref xa, .ref g]) rfl ?_
  refine W.cs (cells' := 6) (slots' := 20263) (by decide) (by decide) ?_
  refine va_put (D := D) (ci := 3) (v := .ref xa) (ty := tyX5 6) (C := RX5) (T := TX5) (N := 8) hx hb hts hinX50 tyX5 tyX5_ok nmX5 hown hK.1 hP hD hS 0 rfl rfl 6 (by decide) (hts (.fieldLink RX5 146 "RenamingGrid" "workspace" "LRenamingGrid$Exploration;") (List.mem_of_getElem? (i := 2) rfl)) (fun _ h9 => h9) rfl (tyX5_ok 6 (by decide)) rfl rfl (Nat.le_of_ble_eq_true rfl) dX5_explore_30 (fun H locs hP hD hS => ?_)
  have hP : va_P D vwCl [(g, .inr (3, [.ref pr, .ref sc, .ref sa, .int (nI nS), .ref sl, .ref sch, .ref xa, .null])), (pr, .inr (2, cS S)), (xa, .inr (0, [.ref fo, .ref pa, .ref mo, .ref ta, .ref ou, .int (nI 0), .int (nI 0)])), (fo, .inl (ca 1, 4000, .inr (.inl o))), (pa, .inl (ca 0, 4000, .inl ((fun _ => 0)))), (mo, .inl (ca 0, 4000, .inl ((fun _ => 0)))), (ta, .inl (ca 0, 8192, .inl (rwN ((fun _ => 0))))), (ou, .inl (ca 1, 64, .inr (.inl o)))] H := hP
  have hD : va_D A [(g, .inr (3, [.ref pr, .ref sc, .ref sa, .int (nI nS), .ref sl, .ref sch, .ref xa, .null])), (pr, .inr (2, cS S)), (xa, .inr (0, [.ref fo, .ref pa, .ref mo, .ref ta, .ref ou, .int (nI 0), .int (nI 0)])), (fo, .inl (ca 1, 4000, .inr (.inl o))), (pa, .inl (ca 0, 4000, .inl ((fun _ => 0)))), (mo, .inl (ca 0, 4000, .inl ((fun _ => 0)))), (ta, .inl (ca 0, 8192, .inl (rwN ((fun _ => 0))))), (ou, .inl (ca 1, 64, .inr (.inl o)))] := hD
  refine lv_aload_n hx hb dX5_explore_33 rfl (lv_at hl 0 rfl) ?_
  refine va_get (D := D) (ci := 3) (v := .ref xa) (C := RX5) (T := TX5) (N := 8) hx hb hts hinX50 hown hK.1 hP 0 rfl rfl 6 (by decide) (hts (.fieldLink RX5 146 "RenamingGrid" "workspace" "LRenamingGrid$Exploration;") (List.mem_of_getElem? (i := 2) rfl)) (fun _ h9 => h9) rfl dX5_explore_34 ?_
  refine lv_aload_n hx hb dX5_explore_37 rfl (lv_at hl 0 rfl) ?_
  refine va_get (D := D) (ci := 3) (v := .ref pr) (C := RX5) (T := TX5) (N := 8) hx hb hts hinX50 hown hK.1 hP 0 rfl rfl 0 (by decide) (hts (.fieldLink RX5 10 "RenamingGrid" "present" "LRenamingGrid$State;") (List.mem_of_getElem? (i := 6) rfl)) (fun _ h9 => h9) rfl dX5_explore_38 ?_
  refine uV (nL := 1) (wr := [(g, .inr (3, [.ref pr, .ref sc, .ref sa, .int (nI nS), .ref sl, .ref sch, .ref xa, .null])), (ou, .inl (ca 1, 64, .inr (.inl o)))]) (ci := 0) (q0 := 2) (cq := (RX2, TX2, 7)) hx hb hml hown hts hK hA hP hD hS [.ref pr] [] (c_X2_findAllFrom l D ca xa fo pa mo ta ou pr 0 0 o ((fun _ => 0)) ((fun _ => 0)) (((fun _ => 0))) S hok) gX5_explore_X2_findAllFrom rfl ⟨rfl, qX2_findAllFrom⟩ ⟨Nat.le_of_ble_eq_true rfl, Nat.le_of_ble_eq_true rfl⟩ rfl rfl [2, 3, 4, 5, 6, 1] [0, 7] rfl rfl (by decide) (by decide) rfl hl.1 (Nat.le_of_ble_eq_true rfl) ⟨Nat.le_of_ble_eq_true rfl, Nat.le_of_ble_eq_true rfl⟩ dX5_explore_41 (fun v1 W1 H locs hO hP hD hS => ?_)
  obtain ⟨f2, p2, m2, t2, k2, rfl, hor⟩ := hO
  rcases hor with ⟨rfl, hx2⟩ | ⟨rfl, hx2⟩
  · obtain ⟨hR2, hH2, hc2, hB2⟩ := hx2
    subst hc2
    have hP : va_P D vwCl [(g, .inr (3, [.ref pr, .ref sc, .ref sa, .int (nI nS), .ref sl, .ref sch, .ref xa, .null])), (pr, .inr (2, cS S)), (xa, .inr (0, [.ref fo, .ref pa, .ref mo, .ref ta, .ref ou, .int (nI ((BF S).length)), .int (nI ((S 1)))])), (fo, .inl (ca 1, 4000, .inr (.inl f2))), (pa, .inl (ca 0, 4000, .inl p2)), (mo, .inl (ca 0, 4000, .inl m2)), (ta, .inl (ca 0, 8192, .inl (rwN t2))), (ou, .inl (ca 1, 64, .inr (.inl o)))] H := hP.sub [0, 7, 2, 3, 4, 5, 6, 1] rfl
    have hD : va_D A [(g, .inr (3, [.ref pr, .ref sc, .ref sa, .int (nI nS), .ref sl, .ref sch, .ref xa, .null])), (pr, .inr (2, cS S)), (xa, .inr (0, [.ref fo, .ref pa, .ref mo, .ref ta, .ref ou, .int (nI ((BF S).length)), .int (nI ((S 1)))])), (fo, .inl (ca 1, 4000, .inr (.inl f2))), (pa, .inl (ca 0, 4000, .inl p2)), (mo, .inl (ca 0, 4000, .inl m2)), (ta, .inl (ca 0, 8192, .inl (rwN t2))), (ou, .inl (ca 1, 64, .inr (.inl o)))] := hD.sub [0, 7, 2, 3, 4, 5, 6, 1] (by decide) rfl
    refine W.eq (g2 := F0 m_ 44 ls [.int (nI 1)]) rfl ?_
    refine n_if_ne (tgt := 50) hx hb dX5_explore_44 (by decide) (by decide) (fun _ => ?_) (fun q => absurd q (by decide))
    refine lv_aload_n hx hb dX5_explore_50 rfl (lv_at hl 0 rfl) ?_
    refine lv_aload_n hx hb dX5_explore_51 rfl (lv_at hl 0 rfl) ?_
    refine va_get (D := D) (ci := 3) (v := .ref xa) (C := RX5) (T := TX5) (N := 8) hx hb hts hinX50 hown hK.1 hP 0 rfl rfl 6 (by decide) (hts (.fieldLink RX5 146 "RenamingGrid" "workspace" "LRenamingGrid$Exploration;") (List.mem_of_getElem? (i := 2) rfl)) (fun _ h9 => h9) rfl dX5_explore_52 ?_
    refine va_put (D := D) (ci := 3) (v := .ref xa) (ty := tyX5 7) (C := RX5) (T := TX5) (N := 8) hx hb hts hinX50 tyX5 tyX5_ok nmX5 hown hK.1 hP hD hS 0 rfl rfl 7 (by decide) (hts (.fieldLink RX5 137 "RenamingGrid" "told" "LRenamingGrid$Exploration;") (List.mem_of_getElem? (i := 1) rfl)) (fun _ h9 => h9) rfl (tyX5_ok 7 (by decide)) rfl rfl (Nat.le_of_ble_eq_true rfl) dX5_explore_55 (fun H locs hP hD hS => ?_)
    have hP : va_P D vwCl [(g, .inr (3, [.ref pr, .ref sc, .ref sa, .int (nI nS), .ref sl, .ref sch, .ref xa, .ref xa])), (pr, .inr (2, cS S)), (xa, .inr (0, [.ref fo, .ref pa, .ref mo, .ref ta, .ref ou, .int (nI ((BF S).length)), .int (nI ((S 1)))])), (fo, .inl (ca 1, 4000, .inr (.inl f2))), (pa, .inl (ca 0, 4000, .inl p2)), (mo, .inl (ca 0, 4000, .inl m2)), (ta, .inl (ca 0, 8192, .inl (rwN t2))), (ou, .inl (ca 1, 64, .inr (.inl o)))] H := hP
    have hD : va_D A [(g, .inr (3, [.ref pr, .ref sc, .ref sa, .int (nI nS), .ref sl, .ref sch, .ref xa, .ref xa])), (pr, .inr (2, cS S)), (xa, .inr (0, [.ref fo, .ref pa, .ref mo, .ref ta, .ref ou, .int (nI ((BF S).length)), .int (nI ((S 1)))])), (fo, .inl (ca 1, 4000, .inr (.inl f2))), (pa, .inl (ca 0, 4000, .inl p2)), (mo, .inl (ca 0, 4000, .inl m2)), (ta, .inl (ca 0, 8192, .inl (rwN t2))), (ou, .inl (ca 1, 64, .inr (.inl o)))] := hD
    refine lv_aload_n hx hb dX5_explore_58 rfl (lv_at hl 0 rfl) ?_
    refine va_get (D := D) (ci := 3) (v := .ref xa) (C := RX5) (T := TX5) (N := 8) hx hb hts hinX50 hown hK.1 hP 0 rfl rfl 7 (by decide) (hts (.fieldLink RX5 137 "RenamingGrid" "told" "LRenamingGrid$Exploration;") (List.mem_of_getElem? (i := 1) rfl)) (fun _ h9 => h9) rfl dX5_explore_59 ?_
    refine va_getN (D := D) (ci := 0) (v := .int (nI ((BF S).length))) (C := RX2) (T := TX2) (N := 7) hx hb hts hinX20 hown hK.1 hP 2 rfl rfl 5 (by decide) (nw10 hK) (fun _ h9 => h9) rfl dX5_explore_62 ?_
    exact uRetI hx hb hr hlocks hK hP hD hS ⟨xa, fo, pa, mo, ta, ou, f2, p2, m2, t2, o, Or.inl ⟨hB2, rfl, ⟨hR2, hH2, rfl, hB2⟩, rfl⟩⟩ (Nat.le_of_ble_eq_true rfl) (Nat.le_of_ble_eq_true rfl) dX5_explore_65
  · have hP : va_P D vwCl [(g, .inr (3, [.ref pr, .ref sc, .ref sa, .int (nI nS), .ref sl, .ref sch, .ref xa, .null])), (pr, .inr (2, cS S)), (xa, .inr (0, [.ref fo, .ref pa, .ref mo, .ref ta, .ref ou, .int (nI k2), .int (nI ((S 1)))])), (fo, .inl (ca 1, 4000, .inr (.inl f2))), (pa, .inl (ca 0, 4000, .inl p2)), (mo, .inl (ca 0, 4000, .inl m2)), (ta, .inl (ca 0, 8192, .inl (rwN t2))), (ou, .inl (ca 1, 64, .inr (.inl o)))] H := hP.sub [0, 7, 2, 3, 4, 5, 6, 1] rfl
    have hD : va_D A [(g, .inr (3, [.ref pr, .ref sc, .ref sa, .int (nI nS), .ref sl, .ref sch, .ref xa, .null])), (pr, .inr (2, cS S)), (xa, .inr (0, [.ref fo, .ref pa, .ref mo, .ref ta, .ref ou, .int (nI k2), .int (nI ((S 1)))])), (fo, .inl (ca 1, 4000, .inr (.inl f2))), (pa, .inl (ca 0, 4000, .inl p2)), (mo, .inl (ca 0, 4000, .inl m2)), (ta, .inl (ca 0, 8192, .inl (rwN t2))), (ou, .inl (ca 1, 64, .inr (.inl o)))] := hD.sub [0, 7, 2, 3, 4, 5, 6, 1] (by decide) rfl
    refine W.eq (g2 := F0 m_ 44 ls [.int (nI 0)]) rfl ?_
    refine n_if_ne (tgt := 50) hx hb dX5_explore_44 (by decide) (by decide) (fun q => absurd q (by decide)) (fun _ => ?_)
    refine lv_bipush (v := -3) hx hb dX5_explore_47 (by decide) ?_
    exact uRetI hx hb hr hlocks hK hP hD hS ⟨xa, fo, pa, mo, ta, ou, f2, p2, m2, t2, o, Or.inr ⟨hx2, rfl, k2, rfl⟩⟩ (Nat.le_of_ble_eq_true rfl) (Nat.le_of_ble_eq_true rfl) dX5_explore_49

set_option maxHeartbeats 4000000 in
set_option maxRecDepth 100000 in
theorem c_X5_finalCount_n (l : Launch) (D : va_G) (ca : Nat → ClassId) (g pr sc sa sl sch : Nat) (nS : Nat) (vW : Value) : RD l D ca yX5_finalCount wsX5_finalCount 0 0 [(g, .inr (3, [.ref pr, .ref sc, .ref sa, .int (nI nS), .ref sl, .ref sch, vW, .null]))] [.ref g] (.int ((-2))) := by
  refine RD.start (cc := cX5_finalCount) (maxL := 1) (ret := (some .int)) (by decide) rfl (Nat.le_of_ble_eq_true rfl) ?_
  intro p_ e_ s_ m_ below_ meth_ c_ hx hb hml hr hlocks hown hts hP hK ls hl
  have hown : s_.vm.findClass RX5 = some m_.cls := hown
  have hl : lv_has ls 1 [(0, .ref g)] := hl
  have hinX50 : ∀ w ∈ wsX50, w ∈ wsX5_finalCount := fun w h => List.mem_cons_of_mem _ (List.mem_append_left _ (List.mem_append_right _ h))
  have hinX20 : ∀ w ∈ wsX20, w ∈ wsX5_finalCount := fun w h => List.mem_cons_of_mem _ (List.mem_append_right _ h)
  refine lv_aload_n hx hb dX5_finalCount_0 rfl (lv_at hl 0 rfl) ?_
  refine va_get (D := D) (ci := 3) (v := .null) (C := RX5) (T := TX5) (N := 8) hx hb hts hinX50 hown hK.1 hP 0 rfl rfl 7 (by decide) (hts (.fieldLink RX5 137 "RenamingGrid" "told" "LRenamingGrid$Exploration;") (List.mem_of_getElem? (i := 1) rfl)) (fun _ h9 => h9) rfl dX5_finalCount_1 ?_
  refine lv_ifnonnullN hx hb dX5_finalCount_4 ?_
  refine lv_bipush (v := -2) hx hb dX5_finalCount_7 (by decide) ?_
  refine lv_goto (tgt := 19) hx hb dX5_finalCount_9 (by decide) ?_
  exact rRetI hx hb hr hlocks rfl dX5_finalCount_19

set_option maxHeartbeats 4000000 in
set_option maxRecDepth 100000 in
theorem c_X5_violationCount_n (l : Launch) (D : va_G) (ca : Nat → ClassId) (g pr sc sa sl sch : Nat) (nS : Nat) (vW : Value) : RD l D ca yX5_violationCount wsX5_violationCount 0 0 [(g, .inr (3, [.ref pr, .ref sc, .ref sa, .int (nI nS), .ref sl, .ref sch, vW, .null]))] [.ref g] (.int ((-2))) := by
  refine RD.start (cc := cX5_violationCount) (maxL := 1) (ret := (some .int)) (by decide) rfl (Nat.le_of_ble_eq_true rfl) ?_
  intro p_ e_ s_ m_ below_ meth_ c_ hx hb hml hr hlocks hown hts hP hK ls hl
  have hown : s_.vm.findClass RX5 = some m_.cls := hown
  have hl : lv_has ls 1 [(0, .ref g)] := hl
  have hinX50 : ∀ w ∈ wsX50, w ∈ wsX5_violationCount := fun w h => List.mem_cons_of_mem _ (List.mem_append_left _ (List.mem_append_right _ h))
  have hinX20 : ∀ w ∈ wsX20, w ∈ wsX5_violationCount := fun w h => List.mem_cons_of_mem _ (List.mem_append_right _ h)
  refine lv_aload_n hx hb dX5_violationCount_0 rfl (lv_at hl 0 rfl) ?_
  refine va_get (D := D) (ci := 3) (v := .null) (C := RX5) (T := TX5) (N := 8) hx hb hts hinX50 hown hK.1 hP 0 rfl rfl 7 (by decide) (hts (.fieldLink RX5 137 "RenamingGrid" "told" "LRenamingGrid$Exploration;") (List.mem_of_getElem? (i := 1) rfl)) (fun _ h9 => h9) rfl dX5_violationCount_1 ?_
  refine lv_ifnonnullN hx hb dX5_violationCount_4 ?_
  refine lv_bipush (v := -2) hx hb dX5_violationCount_7 (by decide) ?_
  refine lv_goto (tgt := 19) hx hb dX5_violationCount_9 (by decide) ?_
  exact rRetI hx hb hr hlocks rfl dX5_violationCount_19

set_option maxHeartbeats 4000000 in
set_option maxRecDepth 100000 in
theorem c_X5_greatestDepth_n (l : Launch) (D : va_G) (ca : Nat → ClassId) (g pr sc sa sl sch : Nat) (nS : Nat) (vW : Value) : RD l D ca yX5_greatestDepth wsX5_greatestDepth 0 0 [(g, .inr (3, [.ref pr, .ref sc, .ref sa, .int (nI nS), .ref sl, .ref sch, vW, .null]))] [.ref g] (.int ((-2))) := by
  refine RD.start (cc := cX5_greatestDepth) (maxL := 1) (ret := (some .int)) (by decide) rfl (Nat.le_of_ble_eq_true rfl) ?_
  intro p_ e_ s_ m_ below_ meth_ c_ hx hb hml hr hlocks hown hts hP hK ls hl
  have hown : s_.vm.findClass RX5 = some m_.cls := hown
  have hl : lv_has ls 1 [(0, .ref g)] := hl
  have hinX50 : ∀ w ∈ wsX50, w ∈ wsX5_greatestDepth := fun w h => List.mem_cons_of_mem _ (List.mem_append_left _ (List.mem_append_right _ h))
  have hinX20 : ∀ w ∈ wsX20, w ∈ wsX5_greatestDepth := fun w h => List.mem_cons_of_mem _ (List.mem_append_right _ h)
  refine lv_aload_n hx hb dX5_greatestDepth_0 rfl (lv_at hl 0 rfl) ?_
  refine va_get (D := D) (ci := 3) (v := .null) (C := RX5) (T := TX5) (N := 8) hx hb hts hinX50 hown hK.1 hP 0 rfl rfl 7 (by decide) (hts (.fieldLink RX5 137 "RenamingGrid" "told" "LRenamingGrid$Exploration;") (List.mem_of_getElem? (i := 1) rfl)) (fun _ h9 => h9) rfl dX5_greatestDepth_1 ?_
  refine lv_ifnonnullN hx hb dX5_greatestDepth_4 ?_
  refine lv_bipush (v := -2) hx hb dX5_greatestDepth_7 (by decide) ?_
  refine lv_goto (tgt := 28) hx hb dX5_greatestDepth_9 (by decide) ?_
  exact rRetI hx hb hr hlocks rfl dX5_greatestDepth_28

set_option maxHeartbeats 4000000 in
set_option maxRecDepth 100000 in
theorem c_X5_greatestName_n (l : Launch) (D : va_G) (ca : Nat → ClassId) (g pr sc sa sl sch : Nat) (nS : Nat) (vW : Value) : RD l D ca yX5_greatestName wsX5_greatestName 0 0 [(g, .inr (3, [.ref pr, .ref sc, .ref sa, .int (nI nS), .ref sl, .ref sch, vW, .null]))] [.ref g] (.int ((-2))) := by
  refine RD.start (cc := cX5_greatestName) (maxL := 1) (ret := (some .int)) (by decide) rfl (Nat.le_of_ble_eq_true rfl) ?_
  intro p_ e_ s_ m_ below_ meth_ c_ hx hb hml hr hlocks hown hts hP hK ls hl
  have hown : s_.vm.findClass RX5 = some m_.cls := hown
  have hl : lv_has ls 1 [(0, .ref g)] := hl
  have hinX50 : ∀ w ∈ wsX50, w ∈ wsX5_greatestName := fun w h => List.mem_cons_of_mem _ (List.mem_append_left _ (List.mem_append_right _ h))
  have hinX20 : ∀ w ∈ wsX20, w ∈ wsX5_greatestName := fun w h => List.mem_cons_of_mem _ (List.mem_append_right _ h)
  refine lv_aload_n hx hb dX5_greatestName_0 rfl (lv_at hl 0 rfl) ?_
  refine va_get (D := D) (ci := 3) (v := .null) (C := RX5) (T := TX5) (N := 8) hx hb hts hinX50 hown hK.1 hP 0 rfl rfl 7 (by decide) (hts (.fieldLink RX5 137 "RenamingGrid" "told" "LRenamingGrid$Exploration;") (List.mem_of_getElem? (i := 1) rfl)) (fun _ h9 => h9) rfl dX5_greatestName_1 ?_
  refine lv_ifnonnullN hx hb dX5_greatestName_4 ?_
  refine lv_bipush (v := -2) hx hb dX5_greatestName_7 (by decide) ?_
  refine lv_goto (tgt := 19) hx hb dX5_greatestName_9 (by decide) ?_
  exact rRetI hx hb hr hlocks rfl dX5_greatestName_19

set_option maxHeartbeats 4000000 in
set_option maxRecDepth 100000 in
theorem c_X5_outcomeCount_n (l : Launch) (D : va_G) (ca : Nat → ClassId) (g pr sc sa sl sch : Nat) (nS : Nat) (vW : Value) : RD l D ca yX5_outcomeCount wsX5_outcomeCount 0 0 [(g, .inr (3, [.ref pr, .ref sc, .ref sa, .int (nI nS), .ref sl, .ref sch, vW, .null]))] [.ref g] (.int ((-2))) := by
  refine RD.start (cc := cX5_outcomeCount) (maxL := 1) (ret := (some .int)) (by decide) rfl (Nat.le_of_ble_eq_true rfl) ?_
  intro p_ e_ s_ m_ below_ meth_ c_ hx hb hml hr hlocks hown hts hP hK ls hl
  have hown : s_.vm.findClass RX5 = some m_.cls := hown
  have hl : lv_has ls 1 [(0, .ref g)] := hl
  have hinX50 : ∀ w ∈ wsX50, w ∈ wsX5_outcomeCount := fun w h => List.mem_cons_of_mem _ (List.mem_append_left _ (List.mem_append_right _ h))
  have hinX20 : ∀ w ∈ wsX20, w ∈ wsX5_outcomeCount := fun w h => List.mem_cons_of_mem _ (List.mem_append_right _ h)
  refine lv_aload_n hx hb dX5_outcomeCount_0 rfl (lv_at hl 0 rfl) ?_
  refine va_get (D := D) (ci := 3) (v := .null) (C := RX5) (T := TX5) (N := 8) hx hb hts hinX50 hown hK.1 hP 0 rfl rfl 7 (by decide) (hts (.fieldLink RX5 137 "RenamingGrid" "told" "LRenamingGrid$Exploration;") (List.mem_of_getElem? (i := 1) rfl)) (fun _ h9 => h9) rfl dX5_outcomeCount_1 ?_
  refine lv_ifnonnullN hx hb dX5_outcomeCount_4 ?_
  refine lv_bipush (v := -2) hx hb dX5_outcomeCount_7 (by decide) ?_
  refine lv_goto (tgt := 19) hx hb dX5_outcomeCount_9 (by decide) ?_
  exact rRetI hx hb hr hlocks rfl dX5_outcomeCount_19

set_option maxHeartbeats 4000000 in
set_option maxRecDepth 100000 in
theorem c_X5_violationStep_n (l : Launch) (D : va_G) (ca : Nat → ClassId) (g pr sc sa sl sch : Nat) (nS : Nat) (vW : Value) (q : Int32) : RD l D ca yX5_violationStep wsX5_violationStep 0 0 [(g, .inr (3, [.ref pr, .ref sc, .ref sa, .int (nI nS), .ref sl, .ref sch, vW, .null]))] [.ref g, .int q] (.int ((if q < 0 then -1 else -2))) := by
  refine RD.start (cc := cX5_violationStep) (maxL := 2) (ret := (some .int)) (by decide) rfl (Nat.le_of_ble_eq_true rfl) ?_
  intro p_ e_ s_ m_ below_ meth_ c_ hx hb hml hr hlocks hown hts hP hK ls hl
  have hown : s_.vm.findClass RX5 = some m_.cls := hown
  have hl : lv_has ls 2 [(0, .ref g), (1, .int q)] := hl
  have hinX50 : ∀ w ∈ wsX50, w ∈ wsX5_violationStep := fun w h => List.mem_cons_of_mem _ (List.mem_append_left _ (List.mem_append_right _ h))
  have hinX20 : ∀ w ∈ wsX20, w ∈ wsX5_violationStep := fun w h => List.mem_cons_of_mem _ (List.mem_append_right _ h)
  refine lv_iload_n hx hb dX5_violationStep_0 rfl (lv_at hl 1 rfl) ?_
  refine lv_if_ge (tgt := 6) hx hb dX5_violationStep_1 (by decide) (fun c1 => ?_) (fun c1 => ?_)
  · refine lv_aload_n hx hb dX5_violationStep_6 rfl (lv_at hl 0 rfl) ?_
    refine va_get (D := D) (ci := 3) (v := .null) (C := RX5) (T := TX5) (N := 8) hx hb hts hinX50 hown hK.1 hP 0 rfl rfl 7 (by decide) (hts (.fieldLink RX5 137 "RenamingGrid" "told" "LRenamingGrid$Exploration;") (List.mem_of_getElem? (i := 1) rfl)) (fun _ h9 => h9) rfl dX5_violationStep_7 ?_
    refine lv_ifnonnullN hx hb dX5_violationStep_10 ?_
    refine lv_bipush (v := -2) hx hb dX5_violationStep_13 (by decide) ?_
    refine lv_goto (tgt := 26) hx hb dX5_violationStep_15 (by decide) ?_
    exact rRetI hx hb hr hlocks (congrArg Value.int (by rw [if_neg (by rw [Int32.not_lt]; exact c1)])) dX5_violationStep_26
  · refine lv_iconst (v := -1) hx hb dX5_violationStep_4 (by decide) ?_
    exact rRetI hx hb hr hlocks (congrArg Value.int (by rw [if_pos (by rw [← Int32.not_le]; exact c1)])) dX5_violationStep_5

set_option maxHeartbeats 4000000 in
set_option maxRecDepth 100000 in
theorem c_X5_finalsWith_n (l : Launch) (D : va_G) (ca : Nat → ClassId) (g pr sc sa sl sch : Nat) (nS : Nat) (vW : Value) (S : Nat → Nat) (q r : Int32) (hok : SOK S) : RD l D ca yX5_finalsWith wsX5_finalsWith 2 41 [(g, .inr (3, [.ref pr, .ref sc, .ref sa, .int (nI nS), .ref sl, .ref sch, vW, .null])), (pr, .inr (2, cS S))] [.ref g, .int q, .int r] (.int ((if inR (S 1) q ∧ inR (nmS S) r then -2 else -1))) := by
  refine RD.start (cc := cX5_finalsWith) (maxL := 3) (ret := (some .int)) (by decide) rfl (Nat.le_of_ble_eq_true rfl) ?_
  intro p_ e_ s_ m_ below_ meth_ c_ hx hb hml hr hlocks hown hts hP hK ls hl
  have hown : s_.vm.findClass RX5 = some m_.cls := hown
  have hl : lv_has ls 3 [(0, .ref g), (1, .int q), (2, .int r)] := hl
  have hinX50 : ∀ w ∈ wsX50, w ∈ wsX5_finalsWith := fun w h => List.mem_cons_of_mem _ (List.mem_append_left _ (List.mem_append_left _ (List.mem_append_right _ h)))
  have hinX40 : ∀ w ∈ wsX40, w ∈ wsX5_finalsWith := fun w h => List.mem_cons_of_mem _ (List.mem_append_left _ (List.mem_append_right _ h))
  have hinX20 : ∀ w ∈ wsX20, w ∈ wsX5_finalsWith := fun w h => List.mem_cons_of_mem _ (List.mem_append_right _ h)
  have hC := hok.2.2.2.1
  have hz := hok.1
  have hn3 := hok.2.1
  have hg := hok.2.2.1
  have hnm := nmS_le hok
  have hct := hok.2.2.2.2.2.2.1
  refine lv_aload_n hx hb dX5_finalsWith_0 rfl (lv_at hl 0 rfl) ?_
  refine va_get (D := D) (ci := 3) (v := .ref pr) (C := RX5) (T := TX5) (N := 8) hx hb hts hinX50 hown hK.1 hP 0 rfl rfl 0 (by decide) (hts (.fieldLink RX5 10 "RenamingGrid" "present" "LRenamingGrid$State;") (List.mem_of_getElem? (i := 1) rfl)) (fun _ h9 => h9) rfl dX5_finalsWith_1 ?_
  refine lv_iload_n hx hb dX5_finalsWith_4 rfl (lv_at hl 1 rfl) ?_
  refine rdV (nL := 3) (ci := 2) (q0 := 1) (cq := (RX4, TX4, 8)) hx hb hml hown hts hK hP [.int q] [] (c_X4_hasProcess l D ca pr S q ) gX5_finalsWith_X4_hasProcess rfl ⟨rfl, qX4_hasProcess⟩ ⟨Nat.le_of_ble_eq_true rfl, Nat.le_of_ble_eq_true rfl⟩ rfl rfl [1] rfl rfl hl.1 (Nat.le_of_ble_eq_true rfl) ⟨Nat.le_of_ble_eq_true rfl, Nat.le_of_ble_eq_true rfl⟩ dX5_finalsWith_5 ?_
  refine n_if_eq (tgt := 22) hx hb dX5_finalsWith_8 (by decide) (bN_b _) (fun c8 => ?_) (fun c8 => ?_)
  · rw [bN_0] at c8
    refine lv_iconst (v := -1) hx hb dX5_finalsWith_22 (by decide) ?_
    exact rRetI hx hb hr hlocks (congrArg Value.int (by rw [if_neg (fun z => c8 z.1)])) dX5_finalsWith_23
  · rw [bN_1] at c8
    refine lv_aload_n hx hb dX5_finalsWith_11 rfl (lv_at hl 0 rfl) ?_
    refine va_get (D := D) (ci := 3) (v := .ref pr) (C := RX5) (T := TX5) (N := 8) hx hb hts hinX50 hown hK.1 hP 0 rfl rfl 0 (by decide) (hts (.fieldLink RX5 10 "RenamingGrid" "present" "LRenamingGrid$State;") (List.mem_of_getElem? (i := 1) rfl)) (fun _ h9 => h9) rfl dX5_finalsWith_12 ?_
    refine lv_iload_n hx hb dX5_finalsWith_15 rfl (lv_at hl 2 rfl) ?_
    refine rdV (nL := 3) (ci := 2) (q0 := 1) (cq := (RX4, TX4, 8)) hx hb hml hown hts hK hP [.int r] [] (c_X4_hasSplitter l D ca pr S r (by omega)) gX5_finalsWith_X4_hasSplitter rfl ⟨rfl, qX4_hasSplitter⟩ ⟨Nat.le_of_ble_eq_true rfl, Nat.le_of_ble_eq_true rfl⟩ rfl rfl [1] rfl rfl hl.1 (Nat.le_of_ble_eq_true rfl) ⟨Nat.le_of_ble_eq_true rfl, Nat.le_of_ble_eq_true rfl⟩ dX5_finalsWith_16 ?_
    refine n_if_ne (tgt := 24) hx hb dX5_finalsWith_19 (by decide) (bN_b _) (fun c19 => ?_) (fun c19 => ?_)
    · rw [bN_1] at c19
      refine lv_aload_n hx hb dX5_finalsWith_24 rfl (lv_at hl 0 rfl) ?_
      refine va_get (D := D) (ci := 3) (v := .null) (C := RX5) (T := TX5) (N := 8) hx hb hts hinX50 hown hK.1 hP 0 rfl rfl 7 (by decide) (hts (.fieldLink RX5 137 "RenamingGrid" "told" "LRenamingGrid$Exploration;") (List.mem_of_getElem? (i := 2) rfl)) (fun _ h9 => h9) rfl dX5_finalsWith_25 ?_
      refine lv_ifnonnullN hx hb dX5_finalsWith_28 ?_
      refine lv_bipush (v := -2) hx hb dX5_finalsWith_31 (by decide) ?_
      refine lv_goto (tgt := 45) hx hb dX5_finalsWith_33 (by decide) ?_
      exact rRetI hx hb hr hlocks (congrArg Value.int (by rw [if_pos ⟨c8, c19⟩])) dX5_finalsWith_45
    · rw [bN_0] at c19
      refine lv_iconst (v := -1) hx hb dX5_finalsWith_22 (by decide) ?_
      exact rRetI hx hb hr hlocks (congrArg Value.int (by rw [if_neg (fun z => c19 z.2)])) dX5_finalsWith_23

