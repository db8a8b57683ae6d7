/-! ===== the model: runText ===== -/
theorem scr_t {a b c : Nat → Int32} (h : scr a b) (h2 : scr b c) : scr a c := fun k hk => (h2 k hk).trans (h k hk)

set_option maxHeartbeats 4000000 in
set_option maxRecDepth 100000 in
theorem c_X6_runText (l : Launch) (D : va_G) (ca : Nat → ClassId) (m : Nat) (r : Nat → Nat) (g : Nat → Int32) (L : Nat) (hg7 : g 7 = nI L) (T : Nat → Nat) (hL : L ≤ 80) (hT : ∀ i, T i ≤ 255) (s S : Nat → Nat) (hs : MR s S) (hok : SOK S) (h : Nat → Nat) (n : Nat) (hn : n ≤ 8) (hg3 : g 3 = nI n) (X0 : PS) (hX0 : X0.1 = 0) : UP l D ca yX6_runText wsX6_runText 6 140 0 0 [(m, .inr (4, mF r g)), (r 1, .inl (ca 0, 38, .inl (rwN s))), (r 2, .inl (ca 0, 304, .inl (rwN h))), (r 6, .inl (ca 0, 80, .inl (rwN T)))] [.ref m] (fun v W1 => ((rdF T L (S 1) L 0 0 X0).1 = 0 → v = some (.int (nI (exN (rdF T L (S 1) L 0 0 X0).2 (rdF T L (S 1) L 0 0 X0).2.1 0 S))) ∧ ∃ (g2 : Nat → Int32) (s2 : Nat → Nat), g2 3 = nI (kpN n) ∧ g2 7 = nI 0 ∧ g2 24 = nI 0 ∧ MR s2 (exS (rdF T L (S 1) L 0 0 X0).2 (rdF T L (S 1) L 0 0 X0).2.1 0 S) ∧ W1 = [(m, .inr (4, mF r g2)), (r 1, .inl (ca 0, 38, .inl (rwN s2))), (r 2, .inl (ca 0, 304, .inl (rwN ((kpH n s h))))), (r 6, .inl (ca 0, 80, .inl (rwN T)))]) ∧ (¬ (rdF T L (S 1) L 0 0 X0).1 = 0 → v = some (.int (-10 - nI ((rdF T L (S 1) L 0 0 X0).1 - 1))) ∧ ∃ g2 : Nat → Int32, scr g g2 ∧ W1 = [(m, .inr (4, mF r g2)), (r 1, .inl (ca 0, 38, .inl (rwN s))), (r 2, .inl (ca 0, 304, .inl (rwN h))), (r 6, .inl (ca 0, 80, .inl (rwN T)))])) := by
  refine UP.start (cc := cX6_runText) (maxL := 2) (ret := (some .int)) (by decide) rfl (Nat.le_of_ble_eq_true rfl) ?_
  intro p_ e_ s_ m_ below_ meth_ c_ A hx hb hml hr hlocks hin hown hts hK hA hP hD hS ls hl
  have hown : s_.vm.findClass RX6 = some m_.cls := hown
  have hl : lv_has ls 2 [(0, .ref m)] := hl
  have hinX60 : ∀ w ∈ wsX60, w ∈ wsX6_runText := fun w h => List.mem_cons_of_mem _ (List.mem_append_right _ h)
  refine lv_aload_n hx hb dX6_runText_0 rfl (lv_at hl 0 rfl) ?_
  refine lv_iconst (v := nI 0) hx hb dX6_runText_1 (by decide) ?_
  refine va_put (D := D) (ci := 4) (v := .int (nI 0)) (ty := tyX6 0) (C := RX6) (T := TX6) (N := 34) hx hb hts hinX60 tyX6 tyX6_ok nmX6 hown hK.1 hP hD hS 0 rfl rfl 0 (by decide) (hts (.fieldLink RX6 57 "RenamingGridModel" "thrown" "I") (List.mem_of_getElem? (i := 1) rfl)) (fun _ h9 => h9) rfl (tyX6_ok 0 (by decide)) rfl rfl (Nat.le_of_ble_eq_true rfl) dX6_runText_2 (fun H locs hP hD hS => ?_)
  have hP : va_P D vwCl [(m, .inr (4, mF r (upd g 0 (nI 0)))), (r 1, .inl (ca 0, 38, .inl (rwN s))), (r 2, .inl (ca 0, 304, .inl (rwN h))), (r 6, .inl (ca 0, 80, .inl (rwN T)))] H := hP
  have hD : va_D A [(m, .inr (4, mF r (upd g 0 (nI 0)))), (r 1, .inl (ca 0, 38, .inl (rwN s))), (r 2, .inl (ca 0, 304, .inl (rwN h))), (r 6, .inl (ca 0, 80, .inl (rwN T)))] := hD
  refine lv_aload_n hx hb dX6_runText_5 rfl (lv_at hl 0 rfl) ?_
  refine lv_iconst (v := nI 0) hx hb dX6_runText_6 (by decide) ?_
  refine uV (nL := 2) (wr := [(r 2, .inl (ca 0, 304, .inl (rwN h)))]) (ci := 4) (q0 := 0) (cq := (RX6, TX6, 34)) hx hb hml hown hts hK hA hP hD hS [.int (nI 0)] [] (c_X6_read_0 l D ca m r ((upd g 0 (nI 0))) L hg7 T hL hT s S hs hok X0 hX0) gX6_runText_X6_read rfl ⟨rfl, qX6_read⟩ ⟨Nat.le_of_ble_eq_true rfl, Nat.le_of_ble_eq_true rfl⟩ rfl rfl [0, 1, 3] [2] rfl rfl (by decide) (by decide) rfl hl.1 (Nat.le_of_ble_eq_true rfl) ⟨Nat.le_of_ble_eq_true rfl, Nat.le_of_ble_eq_true rfl⟩ dX6_runText_7 (fun v1 W1 H locs hO hP hD hS => ?_)
  obtain ⟨z, g2, rfl, hsc, h16, rfl⟩ := hO
  have h3 : g2 3 = nI n := (hsc 3 (Or.inl rfl)).trans hg3
  have h7 : g2 7 = nI L := (hsc 7 (Or.inr (Or.inl rfl))).trans hg7
  have hP : va_P D vwCl [(m, .inr (4, mF r g2)), (r 1, .inl (ca 0, 38, .inl (rwN s))), (r 2, .inl (ca 0, 304, .inl (rwN h))), (r 6, .inl (ca 0, 80, .inl (rwN T)))] H := hP.sub [1, 2, 0, 3] rfl
  have hD : va_D A [(m, .inr (4, mF r g2)), (r 1, .inl (ca 0, 38, .inl (rwN s))), (r 2, .inl (ca 0, 304, .inl (rwN h))), (r 6, .inl (ca 0, 80, .inl (rwN T)))] := hD.sub [1, 2, 0, 3] (by decide) rfl
  refine W.eq (g2 := F0 m_ 10 ls [.int z]) rfl ?_
  refine lv_pop hx hb dX6_runText_10 rfl ?_
  refine lv_aload_n hx hb dX6_runText_11 rfl (lv_at hl 0 rfl) ?_
  refine va_get (D := D) (ci := 4) (v := .int ((n9 (rdF T L (S 1) L 0 0 X0).1))) (C := RX6) (T := TX6) (N := 34) hx hb hts hinX60 hown hK.1 hP 0 rfl rfl 16 (by decide) (hts (.fieldLink RX6 162 "RenamingGridModel" "error" "I") (List.mem_of_getElem? (i := 2) rfl)) (fun _ h9 => h9) (congrArg (fun z => some (Value.int z)) h16) dX6_runText_12 ?_
  refine lv_bipush (v := -9) hx hb dX6_runText_15 (by decide) ?_
  refine lv_icmp_eq (tgt := 28) hx hb dX6_runText_17 (by decide) (fun c17 => ?_) (fun c17 => ?_)
  · have hR0 : (rdF T L (S 1) L 0 0 X0).1 = 0 := (n9_m9 (by have := rd_pos (T := T) (L := L) (n := S 1) (d := L) (j := 0) (E := 0) (X := X0) (by omega); omega)).mp c17
    refine lv_aload_n hx hb dX6_runText_28 rfl (lv_at hl 0 rfl) ?_
    refine uV (nL := 2) (wr := [(r 6, .inl (ca 0, 80, .inl (rwN T)))]) (ci := 4) (q0 := 0) (cq := (RX6, TX6, 34)) hx hb hml hown hts hK hA hP hD hS [] [] (c_X6_keep l D ca m r g2 s h n hn h3) gX6_runText_X6_keep rfl ⟨rfl, qX6_keep⟩ ⟨Nat.le_of_ble_eq_true rfl, Nat.le_of_ble_eq_true rfl⟩ rfl rfl [0, 1, 2] [3] rfl rfl (by decide) (by decide) rfl hl.1 (Nat.le_of_ble_eq_true rfl) ⟨Nat.le_of_ble_eq_true rfl, Nat.le_of_ble_eq_true rfl⟩ dX6_runText_29 (oneK (wsN := [(m, .inr (4, mF r (upd (upd g2 3 (nI (kpN n))) 24 (nI 0)))), (r 1, .inl (ca 0, 38, .inl (rwN s))), (r 2, .inl (ca 0, 304, .inl (rwN ((kpH n s h))))), (r 6, .inl (ca 0, 80, .inl (rwN T)))]) [1, 2, 3, 0] (by decide) rfl (st1 := []) rfl 0 0 rfl rfl (fun H locs hP hD hS => ?_))
    refine lv_aload_n hx hb dX6_runText_32 rfl (lv_at hl 0 rfl) ?_
    refine lv_iconst (v := nI 1) hx hb dX6_runText_33 (by decide) ?_
    refine uV (nL := 2) (wr := [(r 2, .inl (ca 0, 304, .inl (rwN ((kpH n s h)))))]) (ci := 4) (q0 := 0) (cq := (RX6, TX6, 34)) hx hb hml hown hts hK hA hP hD hS [.int (nI 1)] [] (c_X6_read_1 l D ca m r ((upd (upd g2 3 (nI (kpN n))) 24 (nI 0))) L h7 T hL hT s S hs hok X0 hX0 hR0) gX6_runText_X6_read rfl ⟨rfl, qX6_read⟩ ⟨Nat.le_of_ble_eq_true rfl, Nat.le_of_ble_eq_true rfl⟩ rfl rfl [0, 1, 3] [2] rfl rfl (by decide) (by decide) rfl hl.1 (Nat.le_of_ble_eq_true rfl) ⟨Nat.le_of_ble_eq_true rfl, Nat.le_of_ble_eq_true rfl⟩ dX6_runText_34 (fun v1 W1 H locs hO hP hD hS => ?_)
    obtain ⟨rfl, g3, s2, hsc2, hs2, rfl⟩ := hO
    have hP : va_P D vwCl [(m, .inr (4, mF r g3)), (r 1, .inl (ca 0, 38, .inl (rwN s2))), (r 2, .inl (ca 0, 304, .inl (rwN ((kpH n s h))))), (r 6, .inl (ca 0, 80, .inl (rwN T)))] H := hP.sub [1, 2, 0, 3] rfl
    have hD : va_D A [(m, .inr (4, mF r g3)), (r 1, .inl (ca 0, 38, .inl (rwN s2))), (r 2, .inl (ca 0, 304, .inl (rwN ((kpH n s h))))), (r 6, .inl (ca 0, 80, .inl (rwN T)))] := hD.sub [1, 2, 0, 3] (by decide) rfl
    refine W.eq (g2 := F0 m_ 37 ls [.int (nI (exN (rdF T L (S 1) L 0 0 X0).2 (rdF T L (S 1) L 0 0 X0).2.1 0 S))]) rfl ?_
    refine lv_istore_n (lv' := [(1, .int (nI (exN (rdF T L (S 1) L 0 0 X0).2 (rdF T L (S 1) L 0 0 X0).2.1 0 S))), (0, .ref m)]) hx hb dX6_runText_37 rfl hl (by decide) rfl (fun ls hl => ?_)
    refine lv_aload_n hx hb dX6_runText_38 rfl (lv_at hl 1 rfl) ?_
    refine lv_iconst (v := nI 0) hx hb dX6_runText_39 (by decide) ?_
    refine va_put (D := D) (ci := 4) (v := .int (nI 0)) (ty := tyX6 7) (C := RX6) (T := TX6) (N := 34) hx hb hts hinX60 tyX6 tyX6_ok nmX6 hown hK.1 hP hD hS 0 rfl rfl 7 (by decide) (hts (.fieldLink RX6 144 "RenamingGridModel" "length" "I") (List.mem_of_getElem? (i := 3) rfl)) (fun _ h9 => h9) rfl (tyX6_ok 7 (by decide)) rfl rfl (Nat.le_of_ble_eq_true rfl) dX6_runText_40 (fun H locs hP hD hS => ?_)
    have hP : va_P D vwCl [(m, .inr (4, mF r (upd g3 7 (nI 0)))), (r 1, .inl (ca 0, 38, .inl (rwN s2))), (r 2, .inl (ca 0, 304, .inl (rwN ((kpH n s h))))), (r 6, .inl (ca 0, 80, .inl (rwN T)))] H := hP
    have hD : va_D A [(m, .inr (4, mF r (upd g3 7 (nI 0)))), (r 1, .inl (ca 0, 38, .inl (rwN s2))), (r 2, .inl (ca 0, 304, .inl (rwN ((kpH n s h))))), (r 6, .inl (ca 0, 80, .inl (rwN T)))] := hD
    refine lv_iload_n hx hb dX6_runText_43 rfl (lv_at hl 0 rfl) ?_
    exact uRetI hx hb hr hlocks hK hP hD hS ⟨fun _ => ⟨rfl, (upd g3 7 (nI 0)), s2, hsc2 3 (Or.inl rfl), rfl, hsc2 24 (Or.inr (Or.inr (by decide))), hs2, rfl⟩, fun e => absurd hR0 e⟩ (Nat.le_of_ble_eq_true rfl) (Nat.le_of_ble_eq_true rfl) dX6_runText_44
  · have hR0 : ¬ (rdF T L (S 1) L 0 0 X0).1 = 0 := fun e => c17 (by rw [e]; rfl)
    refine lv_bipush (v := -10) hx hb dX6_runText_20 (by decide) ?_
    refine lv_aload_n hx hb dX6_runText_22 rfl (lv_at hl 0 rfl) ?_
    refine va_get (D := D) (ci := 4) (v := .int ((n9 (rdF T L (S 1) L 0 0 X0).1))) (C := RX6) (T := TX6) (N := 34) hx hb hts hinX60 hown hK.1 hP 0 rfl rfl 16 (by decide) (hts (.fieldLink RX6 162 "RenamingGridModel" "error" "I") (List.mem_of_getElem? (i := 2) rfl)) (fun _ h9 => h9) (congrArg (fun z => some (Value.int z)) h16) dX6_runText_23 ?_
    refine lv_isub hx hb dX6_runText_26 ?_
    exact uRetI hx hb hr hlocks hK hP hD hS ⟨fun e => absurd e hR0, fun _ => ⟨by rw [n9_p (Nat.pos_of_ne_zero hR0)], g2, scr_t (scr_u (by decide) (scr_r _)) hsc, rfl⟩⟩ (Nat.le_of_ble_eq_true rfl) (Nat.le_of_ble_eq_true rfl) dX6_runText_27

