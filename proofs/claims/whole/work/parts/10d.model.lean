/-! ===== the model's reads ===== -/
/-- the fields that the model keeps from call to call are the same -/
def scr (g g2 : Nat → Int32) : Prop := ∀ k, k = 3 ∨ k = 7 ∨ 22 ≤ k → g2 k = g k
theorem scr_r (g : Nat → Int32) : scr g g := fun _ _ => rfl
theorem scr_u {g h : Nat → Int32} {k : Nat} {v : Int32} (hk : ¬ (k = 3 ∨ k = 7 ∨ 22 ≤ k)) (e : scr g h) : scr g (upd h k v) := fun j hj => by
  unfold upd
  rw [if_neg (fun z : j = k => hk (z ▸ hj))]
  exact e j hj

set_option maxHeartbeats 4000000 in
set_option maxRecDepth 100000 in
theorem c_X6_status (l : Launch) (D : va_G) (ca : Nat → ClassId) (m : Nat) (r : Nat → Nat) (g : Nat → Int32) (s S : Nat → Nat) (hs : MR s S) (hok : SOK S) (q : Int32) : UP l D ca yX6_status wsX6_status 2 43 0 0 [(m, .inr (4, mF r g)), (r 1, .inl (ca 0, 38, .inl (rwN s)))] [.ref m, .int q] (fun v W1 => v = some (.int (ansP (S 1) q (fun j => nI (stC (S 3) j)))) ∧ ∃ g2 : Nat → Int32, scr g g2 ∧ W1 = [(m, .inr (4, mF r g2)), (r 1, .inl (ca 0, 38, .inl (rwN s)))]) := by
  refine UP.start (cc := cX6_status) (maxL := 2) (ret := (some .int)) (by decide) rfl (Nat.le_of_ble_eq_true rfl) ?_
  intro p_ e_ s_ m_ below_ meth_ c_ A hx hb hml hr hlocks hin hown hts hK hA hP hD hS ls hl
  have hown : s_.vm.findClass RX6 = some m_.cls := hown
  have hl : lv_has ls 2 [(0, .ref m), (1, .int q)] := hl
  have hinX60 : ∀ w ∈ wsX60, w ∈ wsX6_status := fun w h => List.mem_cons_of_mem _ (List.mem_append_right _ h)
  refine lv_aload_n hx hb dX6_status_0 rfl (lv_at hl 0 rfl) ?_
  refine lv_iconst (v := nI 0) hx hb dX6_status_1 (by decide) ?_
  refine va_put (D := D) (ci := 4) (v := .int (nI 0)) (ty := tyX6 0) (C := RX6) (T := TX6) (N := 34) hx hb hts hinX60 tyX6 tyX6_ok nmX6 hown hK.1 hP hD hS 0 rfl rfl 0 (by decide) (hts (.fieldLink RX6 57 "RenamingGridModel" "thrown" "I") (List.mem_of_getElem? (i := 1) rfl)) (fun _ h9 => h9) rfl (tyX6_ok 0 (by decide)) rfl rfl (Nat.le_of_ble_eq_true rfl) dX6_status_2 (fun H locs hP hD hS => ?_)
  have hP : va_P D vwCl [(m, .inr (4, mF r (upd g 0 (nI 0)))), (r 1, .inl (ca 0, 38, .inl (rwN s)))] H := hP
  have hD : va_D A [(m, .inr (4, mF r (upd g 0 (nI 0)))), (r 1, .inl (ca 0, 38, .inl (rwN s)))] := hD
  refine lv_aload_n hx hb dX6_status_5 rfl (lv_at hl 0 rfl) ?_
  refine uV (nL := 2) (wr := []) (ci := 4) (q0 := 0) (cq := (RX6, TX6, 34)) hx hb hml hown hts hK hA hP hD hS [] [] (c_X6_take l D ca m r ((upd g 0 (nI 0))) s S hs) gX6_status_X6_take rfl ⟨rfl, qX6_take⟩ ⟨Nat.le_of_ble_eq_true rfl, Nat.le_of_ble_eq_true rfl⟩ rfl rfl [0, 1] [] rfl rfl (by decide) (by decide) rfl hl.1 (Nat.le_of_ble_eq_true rfl) ⟨Nat.le_of_ble_eq_true rfl, Nat.le_of_ble_eq_true rfl⟩ dX6_status_6 (oneK (wsN := [(m, .inr (4, mF r (upd (upd (upd g 0 (nI 0)) 8 (nI (regs (S 3)))) 9 (nI (qn (S 3)))))), (r 1, .inl (ca 0, 38, .inl (rwN s)))]) [0, 1] (by decide) rfl (st1 := []) rfl 0 0 rfl rfl (fun H locs hP hD hS => ?_))
  refine lv_aload_n hx hb dX6_status_9 rfl (lv_at hl 0 rfl) ?_
  refine lv_iload_n hx hb dX6_status_10 rfl (lv_at hl 1 rfl) ?_
  refine rdV (nL := 2) (ci := 4) (q0 := 0) (cq := (RX6, TX6, 34)) hx hb hml hown hts hK hP [.int q] [] (c_X6_isProcess l D ca m r ((upd (upd (upd g 0 (nI 0)) 8 (nI (regs (S 3)))) 9 (nI (qn (S 3))))) s S hs hok q) gX6_status_X6_isProcess rfl ⟨rfl, qX6_isProcess⟩ ⟨Nat.le_of_ble_eq_true rfl, Nat.le_of_ble_eq_true rfl⟩ rfl rfl [0, 1] rfl rfl hl.1 (Nat.le_of_ble_eq_true rfl) ⟨Nat.le_of_ble_eq_true rfl, Nat.le_of_ble_eq_true rfl⟩ dX6_status_11 ?_
  refine n_if_eq (tgt := 25) hx hb dX6_status_14 (by decide) (bN_b _) (fun c14 => ?_) (fun c14 => ?_)
  · rw [bN_0] at c14
    refine lv_iconst (v := -1) hx hb dX6_status_25 (by decide) ?_
    exact uRetI hx hb hr hlocks hK hP hD hS ⟨congrArg (fun z => some (Value.int z)) (ansP_f c14).symm, _, (scr_u (by decide) (scr_u (by decide) (scr_u (by decide) (scr_r _)))), rfl⟩ (Nat.le_of_ble_eq_true rfl) (Nat.le_of_ble_eq_true rfl) dX6_status_26
  · rw [bN_1] at c14
    obtain ⟨p, hp, rfl⟩ := inR_j (n := S 1) (by have := hok.2.1; omega) c14
    have hp3 : p < 3 := by have := hok.2.1; omega
    refine lv_aload_n hx hb dX6_status_17 rfl (lv_at hl 0 rfl) ?_
    refine lv_iload_n hx hb dX6_status_18 rfl (lv_at hl 1 rfl) ?_
    refine rdV (nL := 2) (ci := 4) (q0 := 0) (cq := (RX6, TX6, 34)) hx hb hml hown hts hK hP [.int (nI p)] [] (c_X6_statusIn l D ca m r ((upd (upd (upd g 0 (nI 0)) 8 (nI (regs (S 3)))) 9 (nI (qn (S 3))))) (qn (S 3)) rfl (qn_lt _) p hp3) gX6_status_X6_statusIn rfl ⟨rfl, qX6_statusIn⟩ ⟨Nat.le_of_ble_eq_true rfl, Nat.le_of_ble_eq_true rfl⟩ rfl rfl [0] rfl rfl hl.1 (Nat.le_of_ble_eq_true rfl) ⟨Nat.le_of_ble_eq_true rfl, Nat.le_of_ble_eq_true rfl⟩ dX6_status_19 ?_
    rw [show (nI (gF (qn (S 3)) (8 * p) 2)) = (nI (stC (S 3) p)) from (by rw [qn_st hp3])]
    refine lv_goto (tgt := 26) hx hb dX6_status_22 (by decide) ?_
    exact uRetI hx hb hr hlocks hK hP hD hS ⟨congrArg (fun z => some (Value.int z)) ((ansP_t (F := fun j => nI (stC (S 3) j)) hp (by have := nmS_le hok; have := hok.2.1; omega)).symm), _, (scr_u (by decide) (scr_u (by decide) (scr_u (by decide) (scr_r _)))), rfl⟩ (Nat.le_of_ble_eq_true rfl) (Nat.le_of_ble_eq_true rfl) dX6_status_26

set_option maxHeartbeats 4000000 in
set_option maxRecDepth 100000 in
theorem c_X6_splitterOf (l : Launch) (D : va_G) (ca : Nat → ClassId) (m : Nat) (r : Nat → Nat) (g : Nat → Int32) (s S : Nat → Nat) (hs : MR s S) (hok : SOK S) (q : Int32) : UP l D ca yX6_splitterOf wsX6_splitterOf 2 43 0 0 [(m, .inr (4, mF r g)), (r 1, .inl (ca 0, 38, .inl (rwN s)))] [.ref m, .int q] (fun v W1 => v = some (.int (ansP (S 1) q (fun j => if stC (S 3) j = 2 then -9 else nI (spC (S 3) j)))) ∧ ∃ g2 : Nat → Int32, scr g g2 ∧ W1 = [(m, .inr (4, mF r g2)), (r 1, .inl (ca 0, 38, .inl (rwN s)))]) := by
  refine UP.start (cc := cX6_splitterOf) (maxL := 2) (ret := (some .int)) (by decide) rfl (Nat.le_of_ble_eq_true rfl) ?_
  intro p_ e_ s_ m_ below_ meth_ c_ A hx hb hml hr hlocks hin hown hts hK hA hP hD hS ls hl
  have hown : s_.vm.findClass RX6 = some m_.cls := hown
  have hl : lv_has ls 2 [(0, .ref m), (1, .int q)] := hl
  have hinX60 : ∀ w ∈ wsX60, w ∈ wsX6_splitterOf := fun w h => List.mem_cons_of_mem _ (List.mem_append_right _ h)
  refine lv_aload_n hx hb dX6_splitterOf_0 rfl (lv_at hl 0 rfl) ?_
  refine lv_iconst (v := nI 0) hx hb dX6_splitterOf_1 (by decide) ?_
  refine va_put (D := D) (ci := 4) (v := .int (nI 0)) (ty := tyX6 0) (C := RX6) (T := TX6) (N := 34) hx hb hts hinX60 tyX6 tyX6_ok nmX6 hown hK.1 hP hD hS 0 rfl rfl 0 (by decide) (hts (.fieldLink RX6 57 "RenamingGridModel" "thrown" "I") (List.mem_of_getElem? (i := 1) rfl)) (fun _ h9 => h9) rfl (tyX6_ok 0 (by decide)) rfl rfl (Nat.le_of_ble_eq_true rfl) dX6_splitterOf_2 (fun H locs hP hD hS => ?_)
  have hP : va_P D vwCl [(m, .inr (4, mF r (upd g 0 (nI 0)))), (r 1, .inl (ca 0, 38, .inl (rwN s)))] H := hP
  have hD : va_D A [(m, .inr (4, mF r (upd g 0 (nI 0)))), (r 1, .inl (ca 0, 38, .inl (rwN s)))] := hD
  refine lv_aload_n hx hb dX6_splitterOf_5 rfl (lv_at hl 0 rfl) ?_
  refine lv_iload_n hx hb dX6_splitterOf_6 rfl (lv_at hl 1 rfl) ?_
  refine rdV (nL := 2) (ci := 4) (q0 := 0) (cq := (RX6, TX6, 34)) hx hb hml hown hts hK hP [.int q] [] (c_X6_isProcess l D ca m r ((upd g 0 (nI 0))) s S hs hok q) gX6_splitterOf_X6_isProcess rfl ⟨rfl, qX6_isProcess⟩ ⟨Nat.le_of_ble_eq_true rfl, Nat.le_of_ble_eq_true rfl⟩ rfl rfl [0, 1] rfl rfl hl.1 (Nat.le_of_ble_eq_true rfl) ⟨Nat.le_of_ble_eq_true rfl, Nat.le_of_ble_eq_true rfl⟩ dX6_splitterOf_7 ?_
  refine n_if_ne (tgt := 15) hx hb dX6_splitterOf_10 (by decide) (bN_b _) (fun c10 => ?_) (fun c10 => ?_)
  · rw [bN_1] at c10
    obtain ⟨p, hp, rfl⟩ := inR_j (n := S 1) (by have := hok.2.1; omega) c10
    have hp3 : p < 3 := by have := hok.2.1; omega
    refine lv_aload_n hx hb dX6_splitterOf_15 rfl (lv_at hl 0 rfl) ?_
    refine uV (nL := 2) (wr := []) (ci := 4) (q0 := 0) (cq := (RX6, TX6, 34)) hx hb hml hown hts hK hA hP hD hS [] [] (c_X6_take l D ca m r ((upd g 0 (nI 0))) s S hs) gX6_splitterOf_X6_take rfl ⟨rfl, qX6_take⟩ ⟨Nat.le_of_ble_eq_true rfl, Nat.le_of_ble_eq_true rfl⟩ rfl rfl [0, 1] [] rfl rfl (by decide) (by decide) rfl hl.1 (Nat.le_of_ble_eq_true rfl) ⟨Nat.le_of_ble_eq_true rfl, Nat.le_of_ble_eq_true rfl⟩ dX6_splitterOf_16 (oneK (wsN := [(m, .inr (4, mF r (upd (upd (upd g 0 (nI 0)) 8 (nI (regs (S 3)))) 9 (nI (qn (S 3)))))), (r 1, .inl (ca 0, 38, .inl (rwN s)))]) [0, 1] (by decide) rfl (st1 := []) rfl 0 0 rfl rfl (fun H locs hP hD hS => ?_))
    refine lv_aload_n hx hb dX6_splitterOf_19 rfl (lv_at hl 0 rfl) ?_
    refine lv_iload_n hx hb dX6_splitterOf_20 rfl (lv_at hl 1 rfl) ?_
    refine rdV (nL := 2) (ci := 4) (q0 := 0) (cq := (RX6, TX6, 34)) hx hb hml hown hts hK hP [.int (nI p)] [] (c_X6_splitterIn l D ca m r ((upd (upd (upd g 0 (nI 0)) 8 (nI (regs (S 3)))) 9 (nI (qn (S 3))))) (qn (S 3)) rfl (qn_lt _) p hp3) gX6_splitterOf_X6_splitterIn rfl ⟨rfl, qX6_splitterIn⟩ ⟨Nat.le_of_ble_eq_true rfl, Nat.le_of_ble_eq_true rfl⟩ rfl rfl [0] rfl rfl hl.1 (Nat.le_of_ble_eq_true rfl) ⟨Nat.le_of_ble_eq_true rfl, Nat.le_of_ble_eq_true rfl⟩ dX6_splitterOf_21 ?_
    rw [show (nI (gF (qn (S 3)) (8 * p + 2) 4)) = (nI (if stC (S 3) p = 2 then 15 else spC (S 3) p)) from (by rw [qn_sp hp3])]
    refine lv_bipush (v := nI 15) hx hb dX6_splitterOf_24 (by decide) ?_
    refine n_ic_ne (tgt := 34) hx hb dX6_splitterOf_26 (by decide) (by have := spC_lt (S 3) p; split <;> omega) (by decide) (fun c26 => ?_) (fun c26 => ?_)
    · have hst : ¬ stC (S 3) p = 2 := by intro e; rw [if_pos e] at c26; exact c26 rfl
      refine lv_aload_n hx hb dX6_splitterOf_34 rfl (lv_at hl 0 rfl) ?_
      refine lv_iload_n hx hb dX6_splitterOf_35 rfl (lv_at hl 1 rfl) ?_
      refine rdV (nL := 2) (ci := 4) (q0 := 0) (cq := (RX6, TX6, 34)) hx hb hml hown hts hK hP [.int (nI p)] [] (c_X6_splitterIn l D ca m r ((upd (upd (upd g 0 (nI 0)) 8 (nI (regs (S 3)))) 9 (nI (qn (S 3))))) (qn (S 3)) rfl (qn_lt _) p hp3) gX6_splitterOf_X6_splitterIn rfl ⟨rfl, qX6_splitterIn⟩ ⟨Nat.le_of_ble_eq_true rfl, Nat.le_of_ble_eq_true rfl⟩ rfl rfl [0] rfl rfl hl.1 (Nat.le_of_ble_eq_true rfl) ⟨Nat.le_of_ble_eq_true rfl, Nat.le_of_ble_eq_true rfl⟩ dX6_splitterOf_36 ?_
      rw [show (nI (gF (qn (S 3)) (8 * p + 2) 4)) = (nI (spC (S 3) p)) from (by rw [qn_sp hp3, if_neg hst])]
      exact uRetI hx hb hr hlocks hK hP hD hS ⟨congrArg (fun z => some (Value.int z)) (((ansP_t (F := fun j => if stC (S 3) j = 2 then -9 else nI (spC (S 3) j)) hp (by have := nmS_le hok; have := hok.2.1; omega)).trans (if_neg hst)).symm), _, (scr_u (by decide) (scr_u (by decide) (scr_u (by decide) (scr_r _)))), rfl⟩ (Nat.le_of_ble_eq_true rfl) (Nat.le_of_ble_eq_true rfl) dX6_splitterOf_39
    · have hst : stC (S 3) p = 2 := by by_cases e : stC (S 3) p = 2; exact e; (rw [if_neg e] at c26; have := pOK_sp (hok.2.2.2.2.1 p hp3); omega)
      refine lv_bipush (v := -9) hx hb dX6_splitterOf_29 (by decide) ?_
      refine lv_goto (tgt := 39) hx hb dX6_splitterOf_31 (by decide) ?_
      exact uRetI hx hb hr hlocks hK hP hD hS ⟨congrArg (fun z => some (Value.int z)) (((ansP_t (F := fun j => if stC (S 3) j = 2 then -9 else nI (spC (S 3) j)) hp (by have := nmS_le hok; have := hok.2.1; omega)).trans (if_pos hst)).symm), _, (scr_u (by decide) (scr_u (by decide) (scr_u (by decide) (scr_r _)))), rfl⟩ (Nat.le_of_ble_eq_true rfl) (Nat.le_of_ble_eq_true rfl) dX6_splitterOf_39
  · rw [bN_0] at c10
    refine lv_iconst (v := -1) hx hb dX6_splitterOf_13 (by decide) ?_
    exact uRetI hx hb hr hlocks hK hP hD hS ⟨congrArg (fun z => some (Value.int z)) (ansP_f c10).symm, _, (scr_u (by decide) (scr_r _)), rfl⟩ (Nat.le_of_ble_eq_true rfl) (Nat.le_of_ble_eq_true rfl) dX6_splitterOf_14

set_option maxHeartbeats 4000000 in
set_option maxRecDepth 100000 in
theorem c_X6_phaseOf (l : Launch) (D : va_G) (ca : Nat → ClassId) (m : Nat) (r : Nat → Nat) (g : Nat → Int32) (s S : Nat → Nat) (hs : MR s S) (hok : SOK S) (q : Int32) : UP l D ca yX6_phaseOf wsX6_phaseOf 2 43 0 0 [(m, .inr (4, mF r g)), (r 1, .inl (ca 0, 38, .inl (rwN s)))] [.ref m, .int q] (fun v W1 => v = some (.int (ansP (S 1) q (fun j => if stC (S 3) j = 2 then -9 else nI (phC (S 3) j)))) ∧ ∃ g2 : Nat → Int32, scr g g2 ∧ W1 = [(m, .inr (4, mF r g2)), (r 1, .inl (ca 0, 38, .inl (rwN s)))]) := by
  refine UP.start (cc := cX6_phaseOf) (maxL := 2) (ret := (some .int)) (by decide) rfl (Nat.le_of_ble_eq_true rfl) ?_
  intro p_ e_ s_ m_ below_ meth_ c_ A hx hb hml hr hlocks hin hown hts hK hA hP hD hS ls hl
  have hown : s_.vm.findClass RX6 = some m_.cls := hown
  have hl : lv_has ls 2 [(0, .ref m), (1, .int q)] := hl
  have hinX60 : ∀ w ∈ wsX60, w ∈ wsX6_phaseOf := fun w h => List.mem_cons_of_mem _ (List.mem_append_right _ h)
  refine lv_aload_n hx hb dX6_phaseOf_0 rfl (lv_at hl 0 rfl) ?_
  refine lv_iconst (v := nI 0) hx hb dX6_phaseOf_1 (by decide) ?_
  refine va_put (D := D) (ci := 4) (v := .int (nI 0)) (ty := tyX6 0) (C := RX6) (T := TX6) (N := 34) hx hb hts hinX60 tyX6 tyX6_ok nmX6 hown hK.1 hP hD hS 0 rfl rfl 0 (by decide) (hts (.fieldLink RX6 57 "RenamingGridModel" "thrown" "I") (List.mem_of_getElem? (i := 1) rfl)) (fun _ h9 => h9) rfl (tyX6_ok 0 (by decide)) rfl rfl (Nat.le_of_ble_eq_true rfl) dX6_phaseOf_2 (fun H locs hP hD hS => ?_)
  have hP : va_P D vwCl [(m, .inr (4, mF r (upd g 0 (nI 0)))), (r 1, .inl (ca 0, 38, .inl (rwN s)))] H := hP
  have hD : va_D A [(m, .inr (4, mF r (upd g 0 (nI 0)))), (r 1, .inl (ca 0, 38, .inl (rwN s)))] := hD
  refine lv_aload_n hx hb dX6_phaseOf_5 rfl (lv_at hl 0 rfl) ?_
  refine lv_iload_n hx hb dX6_phaseOf_6 rfl (lv_at hl 1 rfl) ?_
  refine rdV (nL := 2) (ci := 4) (q0 := 0) (cq := (RX6, TX6, 34)) hx hb hml hown hts hK hP [.int q] [] (c_X6_isProcess l D ca m r ((upd g 0 (nI 0))) s S hs hok q) gX6_phaseOf_X6_isProcess rfl ⟨rfl, qX6_isProcess⟩ ⟨Nat.le_of_ble_eq_true rfl, Nat.le_of_ble_eq_true rfl⟩ rfl rfl [0, 1] rfl rfl hl.1 (Nat.le_of_ble_eq_true rfl) ⟨Nat.le_of_ble_eq_true rfl, Nat.le_of_ble_eq_true rfl⟩ dX6_phaseOf_7 ?_
  refine n_if_ne (tgt := 15) hx hb dX6_phaseOf_10 (by decide) (bN_b _) (fun c10 => ?_) (fun c10 => ?_)
  · rw [bN_1] at c10
    obtain ⟨p, hp, rfl⟩ := inR_j (n := S 1) (by have := hok.2.1; omega) c10
    have hp3 : p < 3 := by have := hok.2.1; omega
    refine lv_aload_n hx hb dX6_phaseOf_15 rfl (lv_at hl 0 rfl) ?_
    refine uV (nL := 2) (wr := []) (ci := 4) (q0 := 0) (cq := (RX6, TX6, 34)) hx hb hml hown hts hK hA hP hD hS [] [] (c_X6_take l D ca m r ((upd g 0 (nI 0))) s S hs) gX6_phaseOf_X6_take rfl ⟨rfl, qX6_take⟩ ⟨Nat.le_of_ble_eq_true rfl, Nat.le_of_ble_eq_true rfl⟩ rfl rfl [0, 1] [] rfl rfl (by decide) (by decide) rfl hl.1 (Nat.le_of_ble_eq_true rfl) ⟨Nat.le_of_ble_eq_true rfl, Nat.le_of_ble_eq_true rfl⟩ dX6_phaseOf_16 (oneK (wsN := [(m, .inr (4, mF r (upd (upd (upd g 0 (nI 0)) 8 (nI (regs (S 3)))) 9 (nI (qn (S 3)))))), (r 1, .inl (ca 0, 38, .inl (rwN s)))]) [0, 1] (by decide) rfl (st1 := []) rfl 0 0 rfl rfl (fun H locs hP hD hS => ?_))
    refine lv_aload_n hx hb dX6_phaseOf_19 rfl (lv_at hl 0 rfl) ?_
    refine lv_iload_n hx hb dX6_phaseOf_20 rfl (lv_at hl 1 rfl) ?_
    refine rdV (nL := 2) (ci := 4) (q0 := 0) (cq := (RX6, TX6, 34)) hx hb hml hown hts hK hP [.int (nI p)] [] (c_X6_splitterIn l D ca m r ((upd (upd (upd g 0 (nI 0)) 8 (nI (regs (S 3)))) 9 (nI (qn (S 3))))) (qn (S 3)) rfl (qn_lt _) p hp3) gX6_phaseOf_X6_splitterIn rfl ⟨rfl, qX6_splitterIn⟩ ⟨Nat.le_of_ble_eq_true rfl, Nat.le_of_ble_eq_true rfl⟩ rfl rfl [0] rfl rfl hl.1 (Nat.le_of_ble_eq_true rfl) ⟨Nat.le_of_ble_eq_true rfl, Nat.le_of_ble_eq_true rfl⟩ dX6_phaseOf_21 ?_
    rw [show (nI (gF (qn (S 3)) (8 * p + 2) 4)) = (nI (if stC (S 3) p = 2 then 15 else spC (S 3) p)) from (by rw [qn_sp hp3])]
    refine lv_bipush (v := nI 15) hx hb dX6_phaseOf_24 (by decide) ?_
    refine n_ic_ne (tgt := 34) hx hb dX6_phaseOf_26 (by decide) (by have := spC_lt (S 3) p; split <;> omega) (by decide) (fun c26 => ?_) (fun c26 => ?_)
    · have hst : ¬ stC (S 3) p = 2 := by intro e; rw [if_pos e] at c26; exact c26 rfl
      refine lv_aload_n hx hb dX6_phaseOf_34 rfl (lv_at hl 0 rfl) ?_
      refine lv_iload_n hx hb dX6_phaseOf_35 rfl (lv_at hl 1 rfl) ?_
      refine rdV (nL := 2) (ci := 4) (q0 := 0) (cq := (RX6, TX6, 34)) hx hb hml hown hts hK hP [.int (nI p)] [] (c_X6_phaseIn l D ca m r ((upd (upd (upd g 0 (nI 0)) 8 (nI (regs (S 3)))) 9 (nI (qn (S 3))))) (qn (S 3)) rfl (qn_lt _) p hp3) gX6_phaseOf_X6_phaseIn rfl ⟨rfl, qX6_phaseIn⟩ ⟨Nat.le_of_ble_eq_true rfl, Nat.le_of_ble_eq_true rfl⟩ rfl rfl [0] rfl rfl hl.1 (Nat.le_of_ble_eq_true rfl) ⟨Nat.le_of_ble_eq_true rfl, Nat.le_of_ble_eq_true rfl⟩ dX6_phaseOf_36 ?_
      rw [show (nI (gF (qn (S 3)) (8 * p + 6) 2)) = (nI (phC (S 3) p)) from (by rw [qn_ph hp3])]
      exact uRetI hx hb hr hlocks hK hP hD hS ⟨congrArg (fun z => some (Value.int z)) (((ansP_t (F := fun j => if stC (S 3) j = 2 then -9 else nI (phC (S 3) j)) hp (by have := nmS_le hok; have := hok.2.1; omega)).trans (if_neg hst)).symm), _, (scr_u (by decide) (scr_u (by decide) (scr_u (by decide) (scr_r _)))), rfl⟩ (Nat.le_of_ble_eq_true rfl) (Nat.le_of_ble_eq_true rfl) dX6_phaseOf_39
    · have hst : stC (S 3) p = 2 := by by_cases e : stC (S 3) p = 2; exact e; (rw [if_neg e] at c26; have := pOK_sp (hok.2.2.2.2.1 p hp3); omega)
      refine lv_bipush (v := -9) hx hb dX6_phaseOf_29 (by decide) ?_
      refine lv_goto (tgt := 39) hx hb dX6_phaseOf_31 (by decide) ?_
      exact uRetI hx hb hr hlocks hK hP hD hS ⟨congrArg (fun z => some (Value.int z)) (((ansP_t (F := fun j => if stC (S 3) j = 2 then -9 else nI (phC (S 3) j)) hp (by have := nmS_le hok; have := hok.2.1; omega)).trans (if_pos hst)).symm), _, (scr_u (by decide) (scr_u (by decide) (scr_u (by decide) (scr_r _)))), rfl⟩ (Nat.le_of_ble_eq_true rfl) (Nat.le_of_ble_eq_true rfl) dX6_phaseOf_39
  · rw [bN_0] at c10
    refine lv_iconst (v := -1) hx hb dX6_phaseOf_13 (by decide) ?_
    exact uRetI hx hb hr hlocks hK hP hD hS ⟨congrArg (fun z => some (Value.int z)) (ansP_f c10).symm, _, (scr_u (by decide) (scr_r _)), rfl⟩ (Nat.le_of_ble_eq_true rfl) (Nat.le_of_ble_eq_true rfl) dX6_phaseOf_14

set_option maxHeartbeats 4000000 in
set_option maxRecDepth 100000 in
theorem c_X6_stepsOf (l : Launch) (D : va_G) (ca : Nat → ClassId) (m : Nat) (r : Nat → Nat) (g : Nat → Int32) (s S : Nat → Nat) (hs : MR s S) (hok : SOK S) (q : Int32) : UP l D ca yX6_stepsOf wsX6_stepsOf 2 43 0 0 [(m, .inr (4, mF r g)), (r 1, .inl (ca 0, 38, .inl (rwN s)))] [.ref m, .int q] (fun v W1 => v = some (.int (ansP (S 1) q (fun j => nI (cnt (S 4) j)))) ∧ ∃ g2 : Nat → Int32, scr g g2 ∧ W1 = [(m, .inr (4, mF r g2)), (r 1, .inl (ca 0, 38, .inl (rwN s)))]) := by
  refine UP.start (cc := cX6_stepsOf) (maxL := 2) (ret := (some .int)) (by decide) rfl (Nat.le_of_ble_eq_true rfl) ?_
  intro p_ e_ s_ m_ below_ meth_ c_ A hx hb hml hr hlocks hin hown hts hK hA hP hD hS ls hl
  have hown : s_.vm.findClass RX6 = some m_.cls := hown
  have hl : lv_has ls 2 [(0, .ref m), (1, .int q)] := hl
  have hinX60 : ∀ w ∈ wsX60, w ∈ wsX6_stepsOf := fun w h => List.mem_cons_of_mem _ (List.mem_append_right _ h)
  refine lv_aload_n hx hb dX6_stepsOf_0 rfl (lv_at hl 0 rfl) ?_
  refine lv_iconst (v := nI 0) hx hb dX6_stepsOf_1 (by decide) ?_
  refine va_put (D := D) (ci := 4) (v := .int (nI 0)) (ty := tyX6 0) (C := RX6) (T := TX6) (N := 34) hx hb hts hinX60 tyX6 tyX6_ok nmX6 hown hK.1 hP hD hS 0 rfl rfl 0 (by decide) (hts (.fieldLink RX6 57 "RenamingGridModel" "thrown" "I") (List.mem_of_getElem? (i := 1) rfl)) (fun _ h9 => h9) rfl (tyX6_ok 0 (by decide)) rfl rfl (Nat.le_of_ble_eq_true rfl) dX6_stepsOf_2 (fun H locs hP hD hS => ?_)
  have hP : va_P D vwCl [(m, .inr (4, mF r (upd g 0 (nI 0)))), (r 1, .inl (ca 0, 38, .inl (rwN s)))] H := hP
  have hD : va_D A [(m, .inr (4, mF r (upd g 0 (nI 0)))), (r 1, .inl (ca 0, 38, .inl (rwN s)))] := hD
  refine lv_aload_n hx hb dX6_stepsOf_5 rfl (lv_at hl 0 rfl) ?_
  refine lv_iload_n hx hb dX6_stepsOf_6 rfl (lv_at hl 1 rfl) ?_
  refine rdV (nL := 2) (ci := 4) (q0 := 0) (cq := (RX6, TX6, 34)) hx hb hml hown hts hK hP [.int q] [] (c_X6_isProcess l D ca m r ((upd g 0 (nI 0))) s S hs hok q) gX6_stepsOf_X6_isProcess rfl ⟨rfl, qX6_isProcess⟩ ⟨Nat.le_of_ble_eq_true rfl, Nat.le_of_ble_eq_true rfl⟩ rfl rfl [0, 1] rfl rfl hl.1 (Nat.le_of_ble_eq_true rfl) ⟨Nat.le_of_ble_eq_true rfl, Nat.le_of_ble_eq_true rfl⟩ dX6_stepsOf_7 ?_
  refine n_if_eq (tgt := 24) hx hb dX6_stepsOf_10 (by decide) (bN_b _) (fun c10 => ?_) (fun c10 => ?_)
  · rw [bN_0] at c10
    refine lv_iconst (v := -1) hx hb dX6_stepsOf_24 (by decide) ?_
    exact uRetI hx hb hr hlocks hK hP hD hS ⟨congrArg (fun z => some (Value.int z)) (ansP_f c10).symm, _, (scr_u (by decide) (scr_r _)), rfl⟩ (Nat.le_of_ble_eq_true rfl) (Nat.le_of_ble_eq_true rfl) dX6_stepsOf_25
  · rw [bN_1] at c10
    obtain ⟨p, hp, rfl⟩ := inR_j (n := S 1) (by have := hok.2.1; omega) c10
    have hp3 : p < 3 := by have := hok.2.1; omega
    refine lv_aload_n hx hb dX6_stepsOf_13 rfl (lv_at hl 0 rfl) ?_
    refine va_get (D := D) (ci := 4) (v := .ref (r 1)) (C := RX6) (T := TX6) (N := 34) hx hb hts hinX60 hown hK.1 hP 0 rfl rfl 1 (by decide) (hts (.fieldLink RX6 7 "RenamingGridModel" "s" "[I") (List.mem_of_getElem? (i := 2) rfl)) (fun _ h9 => h9) rfl dX6_stepsOf_14 ?_
    refine lv_iconst (v := nI 5) hx hb dX6_stepsOf_17 (by decide) ?_
    refine lv_iload_n hx hb dX6_stepsOf_18 rfl (lv_at hl 1 rfl) ?_
    refine n_iadd hx hb dX6_stepsOf_19 ?_
    refine n_iald (D := D) (ca := ca) (v := (nI (cnt (S 4) p))) hx hb hK.1 hP 1 (f := (rwN s)) rfl (by omega) (by decide) (congrArg nI ((hs (5 + p) (by omega)).trans (mS_4 S hp3))) dX6_stepsOf_20 ?_
    refine lv_goto (tgt := 25) hx hb dX6_stepsOf_21 (by decide) ?_
    exact uRetI hx hb hr hlocks hK hP hD hS ⟨congrArg (fun z => some (Value.int z)) ((ansP_t (F := fun j => nI (cnt (S 4) j)) hp (by have := nmS_le hok; have := hok.2.1; omega)).symm), _, (scr_u (by decide) (scr_r _)), rfl⟩ (Nat.le_of_ble_eq_true rfl) (Nat.le_of_ble_eq_true rfl) dX6_stepsOf_25

set_option maxHeartbeats 4000000 in
set_option maxRecDepth 100000 in
theorem c_X6_door (l : Launch) (D : va_G) (ca : Nat → ClassId) (m : Nat) (r : Nat → Nat) (g : Nat → Int32) (s S : Nat → Nat) (hs : MR s S) (hok : SOK S) (q : Int32) : UP l D ca yX6_door wsX6_door 2 43 0 0 [(m, .inr (4, mF r g)), (r 1, .inl (ca 0, 38, .inl (rwN s)))] [.ref m, .int q] (fun v W1 => v = some (.int (ansP (nmS S) q (fun j => nI (doC (S 3) j)))) ∧ ∃ g2 : Nat → Int32, scr g g2 ∧ W1 = [(m, .inr (4, mF r g2)), (r 1, .inl (ca 0, 38, .inl (rwN s)))]) := by
  refine UP.start (cc := cX6_door) (maxL := 2) (ret := (some .int)) (by decide) rfl (Nat.le_of_ble_eq_true rfl) ?_
  intro p_ e_ s_ m_ below_ meth_ c_ A hx hb hml hr hlocks hin hown hts hK hA hP hD hS ls hl
  have hown : s_.vm.findClass RX6 = some m_.cls := hown
  have hl : lv_has ls 2 [(0, .ref m), (1, .int q)] := hl
  have hinX60 : ∀ w ∈ wsX60, w ∈ wsX6_door := fun w h => List.mem_cons_of_mem _ (List.mem_append_right _ h)
  refine lv_aload_n hx hb dX6_door_0 rfl (lv_at hl 0 rfl) ?_
  refine lv_iconst (v := nI 0) hx hb dX6_door_1 (by decide) ?_
  refine va_put (D := D) (ci := 4) (v := .int (nI 0)) (ty := tyX6 0) (C := RX6) (T := TX6) (N := 34) hx hb hts hinX60 tyX6 tyX6_ok nmX6 hown hK.1 hP hD hS 0 rfl rfl 0 (by decide) (hts (.fieldLink RX6 57 "RenamingGridModel" "thrown" "I") (List.mem_of_getElem? (i := 1) rfl)) (fun _ h9 => h9) rfl (tyX6_ok 0 (by decide)) rfl rfl (Nat.le_of_ble_eq_true rfl) dX6_door_2 (fun H locs hP hD hS => ?_)
  have hP : va_P D vwCl [(m, .inr (4, mF r (upd g 0 (nI 0)))), (r 1, .inl (ca 0, 38, .inl (rwN s)))] H := hP
  have hD : va_D A [(m, .inr (4, mF r (upd g 0 (nI 0)))), (r 1, .inl (ca 0, 38, .inl (rwN s)))] := hD
  refine lv_aload_n hx hb dX6_door_5 rfl (lv_at hl 0 rfl) ?_
  refine uV (nL := 2) (wr := []) (ci := 4) (q0 := 0) (cq := (RX6, TX6, 34)) hx hb hml hown hts hK hA hP hD hS [] [] (c_X6_take l D ca m r ((upd g 0 (nI 0))) s S hs) gX6_door_X6_take rfl ⟨rfl, qX6_take⟩ ⟨Nat.le_of_ble_eq_true rfl, Nat.le_of_ble_eq_true rfl⟩ rfl rfl [0, 1] [] rfl rfl (by decide) (by decide) rfl hl.1 (Nat.le_of_ble_eq_true rfl) ⟨Nat.le_of_ble_eq_true rfl, Nat.le_of_ble_eq_true rfl⟩ dX6_door_6 (oneK (wsN := [(m, .inr (4, mF r (upd (upd (upd g 0 (nI 0)) 8 (nI (regs (S 3)))) 9 (nI (qn (S 3)))))), (r 1, .inl (ca 0, 38, .inl (rwN s)))]) [0, 1] (by decide) rfl (st1 := []) rfl 0 0 rfl rfl (fun H locs hP hD hS => ?_))
  refine lv_aload_n hx hb dX6_door_9 rfl (lv_at hl 0 rfl) ?_
  refine lv_iload_n hx hb dX6_door_10 rfl (lv_at hl 1 rfl) ?_
  refine rdV (nL := 2) (ci := 4) (q0 := 0) (cq := (RX6, TX6, 34)) hx hb hml hown hts hK hP [.int q] [] (c_X6_isSplitter l D ca m r ((upd (upd (upd g 0 (nI 0)) 8 (nI (regs (S 3)))) 9 (nI (qn (S 3))))) s S hs hok q) gX6_door_X6_isSplitter rfl ⟨rfl, qX6_isSplitter⟩ ⟨Nat.le_of_ble_eq_true rfl, Nat.le_of_ble_eq_true rfl⟩ rfl rfl [0, 1] rfl rfl hl.1 (Nat.le_of_ble_eq_true rfl) ⟨Nat.le_of_ble_eq_true rfl, Nat.le_of_ble_eq_true rfl⟩ dX6_door_11 ?_
  refine n_if_eq (tgt := 25) hx hb dX6_door_14 (by decide) (bN_b _) (fun c14 => ?_) (fun c14 => ?_)
  · rw [bN_0] at c14
    refine lv_iconst (v := -1) hx hb dX6_door_25 (by decide) ?_
    exact uRetI hx hb hr hlocks hK hP hD hS ⟨congrArg (fun z => some (Value.int z)) (ansP_f c14).symm, _, (scr_u (by decide) (scr_u (by decide) (scr_u (by decide) (scr_r _)))), rfl⟩ (Nat.le_of_ble_eq_true rfl) (Nat.le_of_ble_eq_true rfl) dX6_door_26
  · rw [bN_1] at c14
    obtain ⟨t, ht, rfl⟩ := inR_j (n := nmS S) (by have := nmS_le hok; omega) c14
    have ht10 : t < 10 := by have := nmS_le hok; omega
    refine lv_aload_n hx hb dX6_door_17 rfl (lv_at hl 0 rfl) ?_
    refine lv_iload_n hx hb dX6_door_18 rfl (lv_at hl 1 rfl) ?_
    refine rdV (nL := 2) (ci := 4) (q0 := 0) (cq := (RX6, TX6, 34)) hx hb hml hown hts hK hP [.int (nI t)] [] (c_X6_doorIn l D ca m r ((upd (upd (upd g 0 (nI 0)) 8 (nI (regs (S 3)))) 9 (nI (qn (S 3))))) (regs (S 3)) rfl (regs_lt hok.2.2.2.1) t ht10) gX6_door_X6_doorIn rfl ⟨rfl, qX6_doorIn⟩ ⟨Nat.le_of_ble_eq_true rfl, Nat.le_of_ble_eq_true rfl⟩ rfl rfl [0] rfl rfl hl.1 (Nat.le_of_ble_eq_true rfl) ⟨Nat.le_of_ble_eq_true rfl, Nat.le_of_ble_eq_true rfl⟩ dX6_door_19 ?_
    rw [show (nI (gF (regs (S 3)) (3 * t + 2) 1)) = (nI (doC (S 3) t)) from (by rw [regs_g]; rfl)]
    refine lv_goto (tgt := 26) hx hb dX6_door_22 (by decide) ?_
    exact uRetI hx hb hr hlocks hK hP hD hS ⟨congrArg (fun z => some (Value.int z)) ((ansP_t (F := fun j => nI (doC (S 3) j)) ht (by have := nmS_le hok; have := hok.2.1; omega)).symm), _, (scr_u (by decide) (scr_u (by decide) (scr_u (by decide) (scr_r _)))), rfl⟩ (Nat.le_of_ble_eq_true rfl) (Nat.le_of_ble_eq_true rfl) dX6_door_26

set_option maxHeartbeats 4000000 in
set_option maxRecDepth 100000 in
theorem c_X6_entered (l : Launch) (D : va_G) (ca : Nat → ClassId) (m : Nat) (r : Nat → Nat) (g : Nat → Int32) (s S : Nat → Nat) (hs : MR s S) (hok : SOK S) (q : Int32) : UP l D ca yX6_entered wsX6_entered 2 43 0 0 [(m, .inr (4, mF r g)), (r 1, .inl (ca 0, 38, .inl (rwN s)))] [.ref m, .int q] (fun v W1 => v = some (.int (ansP (nmS S) q (fun j => nI (cnt (S 5) j)))) ∧ ∃ g2 : Nat → Int32, scr g g2 ∧ W1 = [(m, .inr (4, mF r g2)), (r 1, .inl (ca 0, 38, .inl (rwN s)))]) := by
  refine UP.start (cc := cX6_entered) (maxL := 2) (ret := (some .int)) (by decide) rfl (Nat.le_of_ble_eq_true rfl) ?_
  intro p_ e_ s_ m_ below_ meth_ c_ A hx hb hml hr hlocks hin hown hts hK hA hP hD hS ls hl
  have hown : s_.vm.findClass RX6 = some m_.cls := hown
  have hl : lv_has ls 2 [(0, .ref m), (1, .int q)] := hl
  have hinX60 : ∀ w ∈ wsX60, w ∈ wsX6_entered := fun w h => List.mem_cons_of_mem _ (List.mem_append_right _ h)
  refine lv_aload_n hx hb dX6_entered_0 rfl (lv_at hl 0 rfl) ?_
  refine lv_iconst (v := nI 0) hx hb dX6_entered_1 (by decide) ?_
  refine va_put (D := D) (ci := 4) (v := .int (nI 0)) (ty := tyX6 0) (C := RX6) (T := TX6) (N := 34) hx hb hts hinX60 tyX6 tyX6_ok nmX6 hown hK.1 hP hD hS 0 rfl rfl 0 (by decide) (hts (.fieldLink RX6 57 "RenamingGridModel" "thrown" "I") (List.mem_of_getElem? (i := 1) rfl)) (fun _ h9 => h9) rfl (tyX6_ok 0 (by decide)) rfl rfl (Nat.le_of_ble_eq_true rfl) dX6_entered_2 (fun H locs hP hD hS => ?_)
  have hP : va_P D vwCl [(m, .inr (4, mF r (upd g 0 (nI 0)))), (r 1, .inl (ca 0, 38, .inl (rwN s)))] H := hP
  have hD : va_D A [(m, .inr (4, mF r (upd g 0 (nI 0)))), (r 1, .inl (ca 0, 38, .inl (rwN s)))] := hD
  refine lv_aload_n hx hb dX6_entered_5 rfl (lv_at hl 0 rfl) ?_
  refine lv_iload_n hx hb dX6_entered_6 rfl (lv_at hl 1 rfl) ?_
  refine rdV (nL := 2) (ci := 4) (q0 := 0) (cq := (RX6, TX6, 34)) hx hb hml hown hts hK hP [.int q] [] (c_X6_isSplitter l D ca m r ((upd g 0 (nI 0))) s S hs hok q) gX6_entered_X6_isSplitter rfl ⟨rfl, qX6_isSplitter⟩ ⟨Nat.le_of_ble_eq_true rfl, Nat.le_of_ble_eq_true rfl⟩ rfl rfl [0, 1] rfl rfl hl.1 (Nat.le_of_ble_eq_true rfl) ⟨Nat.le_of_ble_eq_true rfl, Nat.le_of_ble_eq_true rfl⟩ dX6_entered_7 ?_
  refine n_if_eq (tgt := 25) hx hb dX6_entered_10 (by decide) (bN_b _) (fun c10 => ?_) (fun c10 => ?_)
  · rw [bN_0] at c10
    refine lv_iconst (v := -1) hx hb dX6_entered_25 (by decide) ?_
    exact uRetI hx hb hr hlocks hK hP hD hS ⟨congrArg (fun z => some (Value.int z)) (ansP_f c10).symm, _, (scr_u (by decide) (scr_r _)), rfl⟩ (Nat.le_of_ble_eq_true rfl) (Nat.le_of_ble_eq_true rfl) dX6_entered_26
  · rw [bN_1] at c10
    obtain ⟨t, ht, rfl⟩ := inR_j (n := nmS S) (by have := nmS_le hok; omega) c10
    have ht10 : t < 10 := by have := nmS_le hok; omega
    refine lv_aload_n hx hb dX6_entered_13 rfl (lv_at hl 0 rfl) ?_
    refine va_get (D := D) (ci := 4) (v := .ref (r 1)) (C := RX6) (T := TX6) (N := 34) hx hb hts hinX60 hown hK.1 hP 0 rfl rfl 1 (by decide) (hts (.fieldLink RX6 7 "RenamingGridModel" "s" "[I") (List.mem_of_getElem? (i := 2) rfl)) (fun _ h9 => h9) rfl dX6_entered_14 ?_
    refine lv_bipush (v := nI 8) hx hb dX6_entered_17 (by decide) ?_
    refine lv_iload_n hx hb dX6_entered_19 rfl (lv_at hl 1 rfl) ?_
    refine n_iadd hx hb dX6_entered_20 ?_
    refine n_iald (D := D) (ca := ca) (v := (nI (cnt (S 5) t))) hx hb hK.1 hP 1 (f := (rwN s)) rfl (by omega) (by decide) (congrArg nI ((hs (8 + t) (by omega)).trans (mS_5 S ht10))) dX6_entered_21 ?_
    refine lv_goto (tgt := 26) hx hb dX6_entered_22 (by decide) ?_
    exact uRetI hx hb hr hlocks hK hP hD hS ⟨congrArg (fun z => some (Value.int z)) ((ansP_t (F := fun j => nI (cnt (S 5) j)) ht (by have := nmS_le hok; have := hok.2.1; omega)).symm), _, (scr_u (by decide) (scr_r _)), rfl⟩ (Nat.le_of_ble_eq_true rfl) (Nat.le_of_ble_eq_true rfl) dX6_entered_26

set_option maxHeartbeats 4000000 in
set_option maxRecDepth 100000 in
theorem c_X6_owner (l : Launch) (D : va_G) (ca : Nat → ClassId) (m : Nat) (r : Nat → Nat) (g : Nat → Int32) (s S : Nat → Nat) (hs : MR s S) (hok : SOK S) (q : Int32) : UP l D ca yX6_owner wsX6_owner 2 43 0 0 [(m, .inr (4, mF r g)), (r 1, .inl (ca 0, 38, .inl (rwN s)))] [.ref m, .int q] (fun v W1 => v = some (.int (ansP (nmS S) q (fun j => ownV (S 3) j))) ∧ ∃ g2 : Nat → Int32, scr g g2 ∧ W1 = [(m, .inr (4, mF r g2)), (r 1, .inl (ca 0, 38, .inl (rwN s)))]) := by
  refine UP.start (cc := cX6_owner) (maxL := 2) (ret := (some .int)) (by decide) rfl (Nat.le_of_ble_eq_true rfl) ?_
  intro p_ e_ s_ m_ below_ meth_ c_ A hx hb hml hr hlocks hin hown hts hK hA hP hD hS ls hl
  have hown : s_.vm.findClass RX6 = some m_.cls := hown
  have hl : lv_has ls 2 [(0, .ref m), (1, .int q)] := hl
  have hinX60 : ∀ w ∈ wsX60, w ∈ wsX6_owner := fun w h => List.mem_cons_of_mem _ (List.mem_append_right _ h)
  refine lv_aload_n hx hb dX6_owner_0 rfl (lv_at hl 0 rfl) ?_
  refine lv_iconst (v := nI 0) hx hb dX6_owner_1 (by decide) ?_
  refine va_put (D := D) (ci := 4) (v := .int (nI 0)) (ty := tyX6 0) (C := RX6) (T := TX6) (N := 34) hx hb hts hinX60 tyX6 tyX6_ok nmX6 hown hK.1 hP hD hS 0 rfl rfl 0 (by decide) (hts (.fieldLink RX6 57 "RenamingGridModel" "thrown" "I") (List.mem_of_getElem? (i := 1) rfl)) (fun _ h9 => h9) rfl (tyX6_ok 0 (by decide)) rfl rfl (Nat.le_of_ble_eq_true rfl) dX6_owner_2 (fun H locs hP hD hS => ?_)
  have hP : va_P D vwCl [(m, .inr (4, mF r (upd g 0 (nI 0)))), (r 1, .inl (ca 0, 38, .inl (rwN s)))] H := hP
  have hD : va_D A [(m, .inr (4, mF r (upd g 0 (nI 0)))), (r 1, .inl (ca 0, 38, .inl (rwN s)))] := hD
  refine lv_aload_n hx hb dX6_owner_5 rfl (lv_at hl 0 rfl) ?_
  refine lv_iload_n hx hb dX6_owner_6 rfl (lv_at hl 1 rfl) ?_
  refine rdV (nL := 2) (ci := 4) (q0 := 0) (cq := (RX6, TX6, 34)) hx hb hml hown hts hK hP [.int q] [] (c_X6_isSplitter l D ca m r ((upd g 0 (nI 0))) s S hs hok q) gX6_owner_X6_isSplitter rfl ⟨rfl, qX6_isSplitter⟩ ⟨Nat.le_of_ble_eq_true rfl, Nat.le_of_ble_eq_true rfl⟩ rfl rfl [0, 1] rfl rfl hl.1 (Nat.le_of_ble_eq_true rfl) ⟨Nat.le_of_ble_eq_true rfl, Nat.le_of_ble_eq_true rfl⟩ dX6_owner_7 ?_
  refine n_if_ne (tgt := 15) hx hb dX6_owner_10 (by decide) (bN_b _) (fun c10 => ?_) (fun c10 => ?_)
  · rw [bN_1] at c10
    obtain ⟨t, ht, rfl⟩ := inR_j (n := nmS S) (by have := nmS_le hok; omega) c10
    have ht10 : t < 10 := by have := nmS_le hok; omega
    refine lv_aload_n hx hb dX6_owner_15 rfl (lv_at hl 0 rfl) ?_
    refine uV (nL := 2) (wr := []) (ci := 4) (q0 := 0) (cq := (RX6, TX6, 34)) hx hb hml hown hts hK hA hP hD hS [] [] (c_X6_take l D ca m r ((upd g 0 (nI 0))) s S hs) gX6_owner_X6_take rfl ⟨rfl, qX6_take⟩ ⟨Nat.le_of_ble_eq_true rfl, Nat.le_of_ble_eq_true rfl⟩ rfl rfl [0, 1] [] rfl rfl (by decide) (by decide) rfl hl.1 (Nat.le_of_ble_eq_true rfl) ⟨Nat.le_of_ble_eq_true rfl, Nat.le_of_ble_eq_true rfl⟩ dX6_owner_16 (oneK (wsN := [(m, .inr (4, mF r (upd (upd (upd g 0 (nI 0)) 8 (nI (regs (S 3)))) 9 (nI (qn (S 3)))))), (r 1, .inl (ca 0, 38, .inl (rwN s)))]) [0, 1] (by decide) rfl (st1 := []) rfl 0 0 rfl rfl (fun H locs hP hD hS => ?_))
    refine lv_aload_n hx hb dX6_owner_19 rfl (lv_at hl 0 rfl) ?_
    refine lv_iload_n hx hb dX6_owner_20 rfl (lv_at hl 1 rfl) ?_
    refine rdV (nL := 2) (ci := 4) (q0 := 0) (cq := (RX6, TX6, 34)) hx hb hml hown hts hK hP [.int (nI t)] [] (c_X6_ownerIn l D ca m r ((upd (upd (upd g 0 (nI 0)) 8 (nI (regs (S 3)))) 9 (nI (qn (S 3))))) (regs (S 3)) rfl (regs_lt hok.2.2.2.1) t ht10) gX6_owner_X6_ownerIn rfl ⟨rfl, qX6_ownerIn⟩ ⟨Nat.le_of_ble_eq_true rfl, Nat.le_of_ble_eq_true rfl⟩ rfl rfl [0] rfl rfl hl.1 (Nat.le_of_ble_eq_true rfl) ⟨Nat.le_of_ble_eq_true rfl, Nat.le_of_ble_eq_true rfl⟩ dX6_owner_21 ?_
    rw [show ((zI (gF (regs (S 3)) (3 * t) 2))) = ((zI (owC (S 3) t))) from (by rw [regs_g]; rfl)]
    refine lv_if_ge (tgt := 32) hx hb dX6_owner_24 (by decide) (fun c24 => ?_) (fun c24 => ?_)
    · have how4 := owC_lt (S 3) t
      have hoz : owC (S 3) t ≠ 0 := (zI_ge (by omega)).mp c24
      refine lv_aload_n hx hb dX6_owner_32 rfl (lv_at hl 0 rfl) ?_
      refine lv_iload_n hx hb dX6_owner_33 rfl (lv_at hl 1 rfl) ?_
      refine rdV (nL := 2) (ci := 4) (q0 := 0) (cq := (RX6, TX6, 34)) hx hb hml hown hts hK hP [.int (nI t)] [] (c_X6_ownerIn l D ca m r ((upd (upd (upd g 0 (nI 0)) 8 (nI (regs (S 3)))) 9 (nI (qn (S 3))))) (regs (S 3)) rfl (regs_lt hok.2.2.2.1) t ht10) gX6_owner_X6_ownerIn rfl ⟨rfl, qX6_ownerIn⟩ ⟨Nat.le_of_ble_eq_true rfl, Nat.le_of_ble_eq_true rfl⟩ rfl rfl [0] rfl rfl hl.1 (Nat.le_of_ble_eq_true rfl) ⟨Nat.le_of_ble_eq_true rfl, Nat.le_of_ble_eq_true rfl⟩ dX6_owner_34 ?_
      rw [show ((zI (gF (regs (S 3)) (3 * t) 2))) = ((zI (owC (S 3) t))) from (by rw [regs_g]; rfl)]
      exact uRetI hx hb hr hlocks hK hP hD hS ⟨congrArg (fun z => some (Value.int z)) (((ansP_t (F := fun j => ownV (S 3) j) ht (by have := nmS_le hok; have := hok.2.1; omega)).trans ((if_neg hoz).trans (zI_p (by omega)).symm)).symm), _, (scr_u (by decide) (scr_u (by decide) (scr_u (by decide) (scr_r _)))), rfl⟩ (Nat.le_of_ble_eq_true rfl) (Nat.le_of_ble_eq_true rfl) dX6_owner_37
    · have how4 := owC_lt (S 3) t
      have hoz : owC (S 3) t = 0 := by rcases Nat.eq_zero_or_pos (owC (S 3) t) with e | e; exact e; exact absurd ((zI_ge (by omega)).mpr (by omega)) c24
      refine lv_bipush (v := -9) hx hb dX6_owner_27 (by decide) ?_
      refine lv_goto (tgt := 37) hx hb dX6_owner_29 (by decide) ?_
      exact uRetI hx hb hr hlocks hK hP hD hS ⟨congrArg (fun z => some (Value.int z)) (((ansP_t (F := fun j => ownV (S 3) j) ht (by have := nmS_le hok; have := hok.2.1; omega)).trans (if_pos hoz)).symm), _, (scr_u (by decide) (scr_u (by decide) (scr_u (by decide) (scr_r _)))), rfl⟩ (Nat.le_of_ble_eq_true rfl) (Nat.le_of_ble_eq_true rfl) dX6_owner_37
  · rw [bN_0] at c10
    refine lv_iconst (v := -1) hx hb dX6_owner_13 (by decide) ?_
    exact uRetI hx hb hr hlocks hK hP hD hS ⟨congrArg (fun z => some (Value.int z)) (ansP_f c10).symm, _, (scr_u (by decide) (scr_r _)), rfl⟩ (Nat.le_of_ble_eq_true rfl) (Nat.le_of_ble_eq_true rfl) dX6_owner_14

set_option maxHeartbeats 4000000 in
set_option maxRecDepth 100000 in
theorem c_X6_nameCount (l : Launch) (D : va_G) (ca : Nat → ClassId) (m : Nat) (r : Nat → Nat) (g : Nat → Int32) (s S : Nat → Nat) (hs : MR s S) (hok : SOK S) : UP l D ca yX6_nameCount wsX6_nameCount 1 20 0 0 [(m, .inr (4, mF r g)), (r 1, .inl (ca 0, 38, .inl (rwN s)))] [.ref m] (fun v W1 => v = some (.int (nI (nmS S))) ∧ ∃ g2 : Nat → Int32, scr g g2 ∧ W1 = [(m, .inr (4, mF r g2)), (r 1, .inl (ca 0, 38, .inl (rwN s)))]) := by
  refine UP.start (cc := cX6_nameCount) (maxL := 1) (ret := (some .int)) (by decide) rfl (Nat.le_of_ble_eq_true rfl) ?_
  intro p_ e_ s_ m_ below_ meth_ c_ A hx hb hml hr hlocks hin hown hts hK hA hP hD hS ls hl
  have hown : s_.vm.findClass RX6 = some m_.cls := hown
  have hl : lv_has ls 1 [(0, .ref m)] := hl
  have hinX60 : ∀ w ∈ wsX60, w ∈ wsX6_nameCount := fun w h => List.mem_cons_of_mem _ (List.mem_append_right _ h)
  refine lv_aload_n hx hb dX6_nameCount_0 rfl (lv_at hl 0 rfl) ?_
  refine lv_iconst (v := nI 0) hx hb dX6_nameCount_1 (by decide) ?_
  refine va_put (D := D) (ci := 4) (v := .int (nI 0)) (ty := tyX6 0) (C := RX6) (T := TX6) (N := 34) hx hb hts hinX60 tyX6 tyX6_ok nmX6 hown hK.1 hP hD hS 0 rfl rfl 0 (by decide) (hts (.fieldLink RX6 57 "RenamingGridModel" "thrown" "I") (List.mem_of_getElem? (i := 1) rfl)) (fun _ h9 => h9) rfl (tyX6_ok 0 (by decide)) rfl rfl (Nat.le_of_ble_eq_true rfl) dX6_nameCount_2 (fun H locs hP hD hS => ?_)
  have hP : va_P D vwCl [(m, .inr (4, mF r (upd g 0 (nI 0)))), (r 1, .inl (ca 0, 38, .inl (rwN s)))] H := hP
  have hD : va_D A [(m, .inr (4, mF r (upd g 0 (nI 0)))), (r 1, .inl (ca 0, 38, .inl (rwN s)))] := hD
  refine lv_aload_n hx hb dX6_nameCount_5 rfl (lv_at hl 0 rfl) ?_
  refine rdV (nL := 1) (ci := 4) (q0 := 0) (cq := (RX6, TX6, 34)) hx hb hml hown hts hK hP [] [] (c_X6_names l D ca m r ((upd g 0 (nI 0))) s S hs hok) gX6_nameCount_X6_names rfl ⟨rfl, qX6_names⟩ ⟨Nat.le_of_ble_eq_true rfl, Nat.le_of_ble_eq_true rfl⟩ rfl rfl [0, 1] rfl rfl hl.1 (Nat.le_of_ble_eq_true rfl) ⟨Nat.le_of_ble_eq_true rfl, Nat.le_of_ble_eq_true rfl⟩ dX6_nameCount_6 ?_
  exact uRetI hx hb hr hlocks hK hP hD hS ⟨rfl, _, (scr_u (by decide) (scr_r _)), rfl⟩ (Nat.le_of_ble_eq_true rfl) (Nat.le_of_ble_eq_true rfl) dX6_nameCount_9

set_option maxHeartbeats 4000000 in
set_option maxRecDepth 100000 in
theorem c_X6_processCount (l : Launch) (D : va_G) (ca : Nat → ClassId) (m : Nat) (r : Nat → Nat) (g : Nat → Int32) (s S : Nat → Nat) (hs : MR s S) (hok : SOK S) : UP l D ca yX6_processCount wsX6_processCount 0 0 0 0 [(m, .inr (4, mF r g)), (r 1, .inl (ca 0, 38, .inl (rwN s)))] [.ref m] (fun v W1 => v = some (.int (nI (S 1))) ∧ ∃ g2 : Nat → Int32, scr g g2 ∧ W1 = [(m, .inr (4, mF r g2)), (r 1, .inl (ca 0, 38, .inl (rwN s)))]) := by
  refine UP.start (cc := cX6_processCount) (maxL := 1) (ret := (some .int)) (by decide) rfl (Nat.le_of_ble_eq_true rfl) ?_
  intro p_ e_ s_ m_ below_ meth_ c_ A hx hb hml hr hlocks hin hown hts hK hA hP hD hS ls hl
  have hown : s_.vm.findClass RX6 = some m_.cls := hown
  have hl : lv_has ls 1 [(0, .ref m)] := hl
  have hinX60 : ∀ w ∈ wsX60, w ∈ wsX6_processCount := fun w h => List.mem_cons_of_mem _ (List.mem_append_right _ h)
  refine lv_aload_n hx hb dX6_processCount_0 rfl (lv_at hl 0 rfl) ?_
  refine lv_iconst (v := nI 0) hx hb dX6_processCount_1 (by decide) ?_
  refine va_put (D := D) (ci := 4) (v := .int (nI 0)) (ty := tyX6 0) (C := RX6) (T := TX6) (N := 34) hx hb hts hinX60 tyX6 tyX6_ok nmX6 hown hK.1 hP hD hS 0 rfl rfl 0 (by decide) (hts (.fieldLink RX6 57 "RenamingGridModel" "thrown" "I") (List.mem_of_getElem? (i := 1) rfl)) (fun _ h9 => h9) rfl (tyX6_ok 0 (by decide)) rfl rfl (Nat.le_of_ble_eq_true rfl) dX6_processCount_2 (fun H locs hP hD hS => ?_)
  have hP : va_P D vwCl [(m, .inr (4, mF r (upd g 0 (nI 0)))), (r 1, .inl (ca 0, 38, .inl (rwN s)))] H := hP
  have hD : va_D A [(m, .inr (4, mF r (upd g 0 (nI 0)))), (r 1, .inl (ca 0, 38, .inl (rwN s)))] := hD
  refine lv_aload_n hx hb dX6_processCount_5 rfl (lv_at hl 0 rfl) ?_
  refine va_get (D := D) (ci := 4) (v := .ref (r 1)) (C := RX6) (T := TX6) (N := 34) hx hb hts hinX60 hown hK.1 hP 0 rfl rfl 1 (by decide) (hts (.fieldLink RX6 7 "RenamingGridModel" "s" "[I") (List.mem_of_getElem? (i := 2) rfl)) (fun _ h9 => h9) rfl dX6_processCount_6 ?_
  refine lv_iconst (v := nI 1) hx hb dX6_processCount_9 (by decide) ?_
  refine n_iald (D := D) (ca := ca) (v := (nI (S 1))) hx hb hK.1 hP 1 (f := (rwN s)) rfl (by omega) (by decide) (congrArg nI (hs 1 (by decide))) dX6_processCount_10 ?_
  exact uRetI hx hb hr hlocks hK hP hD hS ⟨rfl, _, (scr_u (by decide) (scr_r _)), rfl⟩ (Nat.le_of_ble_eq_true rfl) (Nat.le_of_ble_eq_true rfl) dX6_processCount_11

theorem in01 {z : Int32} : (¬ z < nI 0 ∧ ¬ nI 1 < z) ↔ (z = 0 ∨ z = nI 1) := by
  constructor
  · intro h
    obtain ⟨x, h0, h1, rfl⟩ := rgN (lo := 0) (hi := 1) h.1 h.2 (by decide) (by decide)
    rcases (show x = 0 ∨ x = 1 by omega) with rfl | rfl
    · exact Or.inl rfl
    · exact Or.inr rfl
  · intro h
    rcases h with rfl | rfl <;> decide

set_option maxHeartbeats 4000000 in
set_option maxRecDepth 100000 in
theorem c_X6_left (l : Launch) (D : va_G) (ca : Nat → ClassId) (m : Nat) (r : Nat → Nat) (g : Nat → Int32) (s S : Nat → Nat) (hs : MR s S) (hok : SOK S) (q z : Int32) : UP l D ca yX6_left wsX6_left 2 43 0 0 [(m, .inr (4, mF r g)), (r 1, .inl (ca 0, 38, .inl (rwN s)))] [.ref m, .int q, .int z] (fun v W1 => v = some (.int (ansP (nmS S) q (fun j => if z = 0 then nI (cnt (S 6) j) else if z = nI 1 then nI (cnt (S 7) j) else -1))) ∧ ∃ g2 : Nat → Int32, scr g g2 ∧ W1 = [(m, .inr (4, mF r g2)), (r 1, .inl (ca 0, 38, .inl (rwN s)))]) := by
  refine UP.start (cc := cX6_left) (maxL := 3) (ret := (some .int)) (by decide) rfl (Nat.le_of_ble_eq_true rfl) ?_
  intro p_ e_ s_ m_ below_ meth_ c_ A hx hb hml hr hlocks hin hown hts hK hA hP hD hS ls hl
  have hown : s_.vm.findClass RX6 = some m_.cls := hown
  have hl : lv_has ls 3 [(0, .ref m), (1, .int q), (2, .int z)] := hl
  have hinX60 : ∀ w ∈ wsX60, w ∈ wsX6_left := fun w h => List.mem_cons_of_mem _ (List.mem_append_right _ h)
  refine lv_aload_n hx hb dX6_left_0 rfl (lv_at hl 0 rfl) ?_
  refine lv_iconst (v := nI 0) hx hb dX6_left_1 (by decide) ?_
  refine va_put (D := D) (ci := 4) (v := .int (nI 0)) (ty := tyX6 0) (C := RX6) (T := TX6) (N := 34) hx hb hts hinX60 tyX6 tyX6_ok nmX6 hown hK.1 hP hD hS 0 rfl rfl 0 (by decide) (hts (.fieldLink RX6 57 "RenamingGridModel" "thrown" "I") (List.mem_of_getElem? (i := 1) rfl)) (fun _ h9 => h9) rfl (tyX6_ok 0 (by decide)) rfl rfl (Nat.le_of_ble_eq_true rfl) dX6_left_2 (fun H locs hP hD hS => ?_)
  have hP : va_P D vwCl [(m, .inr (4, mF r (upd g 0 (nI 0)))), (r 1, .inl (ca 0, 38, .inl (rwN s)))] H := hP
  have hD : va_D A [(m, .inr (4, mF r (upd g 0 (nI 0)))), (r 1, .inl (ca 0, 38, .inl (rwN s)))] := hD
  refine lv_aload_n hx hb dX6_left_5 rfl (lv_at hl 0 rfl) ?_
  refine lv_iload_n hx hb dX6_left_6 rfl (lv_at hl 1 rfl) ?_
  refine rdV (nL := 3) (ci := 4) (q0 := 0) (cq := (RX6, TX6, 34)) hx hb hml hown hts hK hP [.int q] [] (c_X6_isSplitter l D ca m r ((upd g 0 (nI 0))) s S hs hok q) gX6_left_X6_isSplitter rfl ⟨rfl, qX6_isSplitter⟩ ⟨Nat.le_of_ble_eq_true rfl, Nat.le_of_ble_eq_true rfl⟩ rfl rfl [0, 1] rfl rfl hl.1 (Nat.le_of_ble_eq_true rfl) ⟨Nat.le_of_ble_eq_true rfl, Nat.le_of_ble_eq_true rfl⟩ dX6_left_7 ?_
  refine n_if_eq (tgt := 22) hx hb dX6_left_10 (by decide) (bN_b _) (fun c10 => ?_) (fun c10 => ?_)
  · rw [bN_0] at c10
    refine lv_iconst (v := -1) hx hb dX6_left_22 (by decide) ?_
    exact uRetI hx hb hr hlocks hK hP hD hS ⟨congrArg (fun z => some (Value.int z)) (ansP_f c10).symm, _, (scr_u (by decide) (scr_r _)), rfl⟩ (Nat.le_of_ble_eq_true rfl) (Nat.le_of_ble_eq_true rfl) dX6_left_23
  · rw [bN_1] at c10
    refine lv_iload_n hx hb dX6_left_13 rfl (lv_at hl 2 rfl) ?_
    refine lv_iconst (v := nI 0) hx hb dX6_left_14 (by decide) ?_
    refine lv_iconst (v := nI 1) hx hb dX6_left_15 (by decide) ?_
    refine rdS (nL := 3) hx hb hml hown hts hK hP [.int z, .int (nI 0), .int (nI 1)] [] (c_X6_in l D ca z (nI 0) (nI 1)) gX6_left_X6_in rfl qX6_in ⟨Nat.le_of_ble_eq_true rfl, Nat.le_of_ble_eq_true rfl⟩ [] rfl rfl hl.1 (Nat.le_of_ble_eq_true rfl) ⟨Nat.le_of_ble_eq_true rfl, Nat.le_of_ble_eq_true rfl⟩ dX6_left_16 ?_
    refine n_if_ne (tgt := 24) hx hb dX6_left_19 (by decide) (bN_b _) (fun c19 => ?_) (fun c19 => ?_)
    · rw [bN_1] at c19
      obtain ⟨t, ht, rfl⟩ := inR_j (n := nmS S) (by have := nmS_le hok; omega) c10
      have ht10 : t < 10 := by have := nmS_le hok; omega
      rw [in01] at c19
      refine lv_aload_n hx hb dX6_left_24 rfl (lv_at hl 0 rfl) ?_
      refine va_get (D := D) (ci := 4) (v := .ref (r 1)) (C := RX6) (T := TX6) (N := 34) hx hb hts hinX60 hown hK.1 hP 0 rfl rfl 1 (by decide) (hts (.fieldLink RX6 7 "RenamingGridModel" "s" "[I") (List.mem_of_getElem? (i := 2) rfl)) (fun _ h9 => h9) rfl dX6_left_25 ?_
      refine lv_iload_n hx hb dX6_left_28 rfl (lv_at hl 2 rfl) ?_
      refine lv_if_ne (tgt := 37) hx hb dX6_left_29 (by decide) (fun c29 => ?_) (fun c29 => ?_)
      · have hz1 : z = nI 1 := by rcases c19 with e | e; exact absurd e c29; exact e
        refine lv_bipush (v := nI 28) hx hb dX6_left_37 (by decide) ?_
        refine lv_iload_n hx hb dX6_left_39 rfl (lv_at hl 1 rfl) ?_
        refine n_iadd hx hb dX6_left_40 ?_
        refine n_iald (D := D) (ca := ca) (v := (nI (cnt (S 7) t))) hx hb hK.1 hP 1 (f := (rwN s)) rfl (by omega) (by decide) (congrArg nI ((hs (28 + t) (by omega)).trans (mS_7 S ht10))) dX6_left_41 ?_
        exact uRetI hx hb hr hlocks hK hP hD hS ⟨congrArg (fun z => some (Value.int z)) ((ansP_t ht (by have := nmS_le hok; omega)).trans ((if_neg c29).trans (if_pos hz1))).symm, _, (scr_u (by decide) (scr_r _)), rfl⟩ (Nat.le_of_ble_eq_true rfl) (Nat.le_of_ble_eq_true rfl) dX6_left_42
      · refine lv_bipush (v := nI 18) hx hb dX6_left_32 (by decide) ?_
        refine lv_goto (tgt := 39) hx hb dX6_left_34 (by decide) ?_
        refine lv_iload_n hx hb dX6_left_39 rfl (lv_at hl 1 rfl) ?_
        refine n_iadd hx hb dX6_left_40 ?_
        refine n_iald (D := D) (ca := ca) (v := (nI (cnt (S 6) t))) hx hb hK.1 hP 1 (f := (rwN s)) rfl (by omega) (by decide) (congrArg nI ((hs (18 + t) (by omega)).trans (mS_6 S ht10))) dX6_left_41 ?_
        exact uRetI hx hb hr hlocks hK hP hD hS ⟨congrArg (fun z => some (Value.int z)) ((ansP_t ht (by have := nmS_le hok; omega)).trans (if_pos c29)).symm, _, (scr_u (by decide) (scr_r _)), rfl⟩ (Nat.le_of_ble_eq_true rfl) (Nat.le_of_ble_eq_true rfl) dX6_left_42
    · rw [bN_0] at c19
      refine lv_iconst (v := -1) hx hb dX6_left_22 (by decide) ?_
      rw [in01] at c19
      have hz0 : ¬ z = 0 := fun e => c19 (Or.inl e)
      have hz1 : ¬ z = nI 1 := fun e => c19 (Or.inr e)
      exact uRetI hx hb hr hlocks hK hP hD hS ⟨congrArg (fun z => some (Value.int z)) (by unfold ansP; simp only [hz0, hz1, if_false, ite_self]), _, (scr_u (by decide) (scr_r _)), rfl⟩ (Nat.le_of_ble_eq_true rfl) (Nat.le_of_ble_eq_true rfl) dX6_left_23

set_option maxHeartbeats 4000000 in
set_option maxRecDepth 100000 in
theorem c_X6_soloSteps (l : Launch) (D : va_G) (ca : Nat → ClassId) (m : Nat) (r : Nat → Nat) (g : Nat → Int32) (s S : Nat → Nat) (hs : MR s S) (hok : SOK S) (q : Int32) : UP l D ca yX6_soloSteps wsX6_soloSteps 4 93 0 0 [(m, .inr (4, mF r g)), (r 1, .inl (ca 0, 38, .inl (rwN s)))] [.ref m, .int q] (fun v W1 => v = some (.int (ansP (S 1) q (fun j => nI (runN 16 S j)))) ∧ ∃ g2 : Nat → Int32, scr g g2 ∧ W1 = [(m, .inr (4, mF r g2)), (r 1, .inl (ca 0, 38, .inl (rwN s)))]) := by
  refine UP.start (cc := cX6_soloSteps) (maxL := 2) (ret := (some .int)) (by decide) rfl (Nat.le_of_ble_eq_true rfl) ?_
  intro p_ e_ s_ m_ below_ meth_ c_ A hx hb hml hr hlocks hin hown hts hK hA hP hD hS ls hl
  have hown : s_.vm.findClass RX6 = some m_.cls := hown
  have hl : lv_has ls 2 [(0, .ref m), (1, .int q)] := hl
  have hinX60 : ∀ w ∈ wsX60, w ∈ wsX6_soloSteps := fun w h => List.mem_cons_of_mem _ (List.mem_append_right _ h)
  refine lv_aload_n hx hb dX6_soloSteps_0 rfl (lv_at hl 0 rfl) ?_
  refine lv_iconst (v := nI 0) hx hb dX6_soloSteps_1 (by decide) ?_
  refine va_put (D := D) (ci := 4) (v := .int (nI 0)) (ty := tyX6 0) (C := RX6) (T := TX6) (N := 34) hx hb hts hinX60 tyX6 tyX6_ok nmX6 hown hK.1 hP hD hS 0 rfl rfl 0 (by decide) (hts (.fieldLink RX6 57 "RenamingGridModel" "thrown" "I") (List.mem_of_getElem? (i := 1) rfl)) (fun _ h9 => h9) rfl (tyX6_ok 0 (by decide)) rfl rfl (Nat.le_of_ble_eq_true rfl) dX6_soloSteps_2 (fun H locs hP hD hS => ?_)
  have hP : va_P D vwCl [(m, .inr (4, mF r (upd g 0 (nI 0)))), (r 1, .inl (ca 0, 38, .inl (rwN s)))] H := hP
  have hD : va_D A [(m, .inr (4, mF r (upd g 0 (nI 0)))), (r 1, .inl (ca 0, 38, .inl (rwN s)))] := hD
  refine lv_aload_n hx hb dX6_soloSteps_5 rfl (lv_at hl 0 rfl) ?_
  refine lv_iload_n hx hb dX6_soloSteps_6 rfl (lv_at hl 1 rfl) ?_
  refine rdV (nL := 2) (ci := 4) (q0 := 0) (cq := (RX6, TX6, 34)) hx hb hml hown hts hK hP [.int q] [] (c_X6_isProcess l D ca m r ((upd g 0 (nI 0))) s S hs hok q) gX6_soloSteps_X6_isProcess rfl ⟨rfl, qX6_isProcess⟩ ⟨Nat.le_of_ble_eq_true rfl, Nat.le_of_ble_eq_true rfl⟩ rfl rfl [0, 1] rfl rfl hl.1 (Nat.le_of_ble_eq_true rfl) ⟨Nat.le_of_ble_eq_true rfl, Nat.le_of_ble_eq_true rfl⟩ dX6_soloSteps_7 ?_
  refine n_if_eq (tgt := 21) hx hb dX6_soloSteps_10 (by decide) (bN_b _) (fun c10 => ?_) (fun c10 => ?_)
  · rw [bN_0] at c10
    refine lv_iconst (v := -1) hx hb dX6_soloSteps_21 (by decide) ?_
    exact uRetI hx hb hr hlocks hK hP hD hS ⟨congrArg (fun z => some (Value.int z)) (ansP_f c10).symm, _, (scr_u (by decide) (scr_r _)), rfl⟩ (Nat.le_of_ble_eq_true rfl) (Nat.le_of_ble_eq_true rfl) dX6_soloSteps_22
  · rw [bN_1] at c10
    obtain ⟨p, hp, rfl⟩ := inR_j (n := S 1) (by have := hok.2.1; omega) c10
    have hp3 : p < 3 := by have := hok.2.1; omega
    refine lv_aload_n hx hb dX6_soloSteps_13 rfl (lv_at hl 0 rfl) ?_
    refine lv_iload_n hx hb dX6_soloSteps_14 rfl (lv_at hl 1 rfl) ?_
    refine uV (nL := 2) (wr := []) (ci := 4) (q0 := 0) (cq := (RX6, TX6, 34)) hx hb hml hown hts hK hA hP hD hS [.int (nI p)] [] (c_X6_runAlone l D ca m r ((upd g 0 (nI 0))) s S hs hok p hp) gX6_soloSteps_X6_runAlone rfl ⟨rfl, qX6_runAlone⟩ ⟨Nat.le_of_ble_eq_true rfl, Nat.le_of_ble_eq_true rfl⟩ rfl rfl [0, 1] [] rfl rfl (by decide) (by decide) rfl hl.1 (Nat.le_of_ble_eq_true rfl) ⟨Nat.le_of_ble_eq_true rfl, Nat.le_of_ble_eq_true rfl⟩ dX6_soloSteps_15 (fun v1 W1 H locs hO hP hD hS => ?_)
    obtain ⟨rfl, x, y, rfl⟩ := hO
    have hP : va_P D vwCl [(m, .inr (4, mF r (upd (upd (upd (upd (upd g 0 (nI 0)) 8 (nI (regs ((runS 16 S p) 3)))) 9 (nI (qn ((runS 16 S p) 3)))) 10 x) 11 y))), (r 1, .inl (ca 0, 38, .inl (rwN s)))] H := hP.sub [0, 1] rfl
    have hD : va_D A [(m, .inr (4, mF r (upd (upd (upd (upd (upd g 0 (nI 0)) 8 (nI (regs ((runS 16 S p) 3)))) 9 (nI (qn ((runS 16 S p) 3)))) 10 x) 11 y))), (r 1, .inl (ca 0, 38, .inl (rwN s)))] := hD.sub [0, 1] (by decide) rfl
    refine W.eq (g2 := F0 m_ 18 ls [.int (nI (runN 16 S p))]) rfl ?_
    refine lv_goto (tgt := 22) hx hb dX6_soloSteps_18 (by decide) ?_
    exact uRetI hx hb hr hlocks hK hP hD hS ⟨congrArg (fun z => some (Value.int z)) ((ansP_t (F := fun j => nI (runN 16 S j)) hp (by have := nmS_le hok; have := hok.2.1; omega)).symm), _, (scr_u (by decide) (scr_u (by decide) (scr_u (by decide) (scr_u (by decide) (scr_u (by decide) (scr_r _)))))), rfl⟩ (Nat.le_of_ble_eq_true rfl) (Nat.le_of_ble_eq_true rfl) dX6_soloSteps_22

set_option maxHeartbeats 4000000 in
set_option maxRecDepth 100000 in
theorem c_X6_soloName (l : Launch) (D : va_G) (ca : Nat → ClassId) (m : Nat) (r : Nat → Nat) (g : Nat → Int32) (s S : Nat → Nat) (hs : MR s S) (hok : SOK S) (q : Int32) : UP l D ca yX6_soloName wsX6_soloName 4 93 0 0 [(m, .inr (4, mF r g)), (r 1, .inl (ca 0, 38, .inl (rwN s)))] [.ref m, .int q] (fun v W1 => v = some (.int (ansP (S 1) q (fun j => nmC (runS 16 S j 3) j))) ∧ ∃ g2 : Nat → Int32, scr g g2 ∧ W1 = [(m, .inr (4, mF r g2)), (r 1, .inl (ca 0, 38, .inl (rwN s)))]) := by
  refine UP.start (cc := cX6_soloName) (maxL := 2) (ret := (some .int)) (by decide) rfl (Nat.le_of_ble_eq_true rfl) ?_
  intro p_ e_ s_ m_ below_ meth_ c_ A hx hb hml hr hlocks hin hown hts hK hA hP hD hS ls hl
  have hown : s_.vm.findClass RX6 = some m_.cls := hown
  have hl : lv_has ls 2 [(0, .ref m), (1, .int q)] := hl
  have hinX60 : ∀ w ∈ wsX60, w ∈ wsX6_soloName := fun w h => List.mem_cons_of_mem _ (List.mem_append_right _ h)
  refine lv_aload_n hx hb dX6_soloName_0 rfl (lv_at hl 0 rfl) ?_
  refine lv_iconst (v := nI 0) hx hb dX6_soloName_1 (by decide) ?_
  refine va_put (D := D) (ci := 4) (v := .int (nI 0)) (ty := tyX6 0) (C := RX6) (T := TX6) (N := 34) hx hb hts hinX60 tyX6 tyX6_ok nmX6 hown hK.1 hP hD hS 0 rfl rfl 0 (by decide) (hts (.fieldLink RX6 57 "RenamingGridModel" "thrown" "I") (List.mem_of_getElem? (i := 1) rfl)) (fun _ h9 => h9) rfl (tyX6_ok 0 (by decide)) rfl rfl (Nat.le_of_ble_eq_true rfl) dX6_soloName_2 (fun H locs hP hD hS => ?_)
  have hP : va_P D vwCl [(m, .inr (4, mF r (upd g 0 (nI 0)))), (r 1, .inl (ca 0, 38, .inl (rwN s)))] H := hP
  have hD : va_D A [(m, .inr (4, mF r (upd g 0 (nI 0)))), (r 1, .inl (ca 0, 38, .inl (rwN s)))] := hD
  refine lv_aload_n hx hb dX6_soloName_5 rfl (lv_at hl 0 rfl) ?_
  refine lv_iload_n hx hb dX6_soloName_6 rfl (lv_at hl 1 rfl) ?_
  refine rdV (nL := 2) (ci := 4) (q0 := 0) (cq := (RX6, TX6, 34)) hx hb hml hown hts hK hP [.int q] [] (c_X6_isProcess l D ca m r ((upd g 0 (nI 0))) s S hs hok q) gX6_soloName_X6_isProcess rfl ⟨rfl, qX6_isProcess⟩ ⟨Nat.le_of_ble_eq_true rfl, Nat.le_of_ble_eq_true rfl⟩ rfl rfl [0, 1] rfl rfl hl.1 (Nat.le_of_ble_eq_true rfl) ⟨Nat.le_of_ble_eq_true rfl, Nat.le_of_ble_eq_true rfl⟩ dX6_soloName_7 ?_
  refine n_if_ne (tgt := 15) hx hb dX6_soloName_10 (by decide) (bN_b _) (fun c10 => ?_) (fun c10 => ?_)
  · rw [bN_1] at c10
    obtain ⟨p, hp, rfl⟩ := inR_j (n := S 1) (by have := hok.2.1; omega) c10
    have hp3 : p < 3 := by have := hok.2.1; omega
    refine lv_aload_n hx hb dX6_soloName_15 rfl (lv_at hl 0 rfl) ?_
    refine lv_iload_n hx hb dX6_soloName_16 rfl (lv_at hl 1 rfl) ?_
    refine uV (nL := 2) (wr := []) (ci := 4) (q0 := 0) (cq := (RX6, TX6, 34)) hx hb hml hown hts hK hA hP hD hS [.int (nI p)] [] (c_X6_runAlone l D ca m r ((upd g 0 (nI 0))) s S hs hok p hp) gX6_soloName_X6_runAlone rfl ⟨rfl, qX6_runAlone⟩ ⟨Nat.le_of_ble_eq_true rfl, Nat.le_of_ble_eq_true rfl⟩ rfl rfl [0, 1] [] rfl rfl (by decide) (by decide) rfl hl.1 (Nat.le_of_ble_eq_true rfl) ⟨Nat.le_of_ble_eq_true rfl, Nat.le_of_ble_eq_true rfl⟩ dX6_soloName_17 (fun v1 W1 H locs hO hP hD hS => ?_)
    obtain ⟨rfl, x, y, rfl⟩ := hO
    have hP : va_P D vwCl [(m, .inr (4, mF r (upd (upd (upd (upd (upd g 0 (nI 0)) 8 (nI (regs ((runS 16 S p) 3)))) 9 (nI (qn ((runS 16 S p) 3)))) 10 x) 11 y))), (r 1, .inl (ca 0, 38, .inl (rwN s)))] H := hP.sub [0, 1] rfl
    have hD : va_D A [(m, .inr (4, mF r (upd (upd (upd (upd (upd g 0 (nI 0)) 8 (nI (regs ((runS 16 S p) 3)))) 9 (nI (qn ((runS 16 S p) 3)))) 10 x) 11 y))), (r 1, .inl (ca 0, 38, .inl (rwN s)))] := hD.sub [0, 1] (by decide) rfl
    refine W.eq (g2 := F0 m_ 20 ls [.int (nI (runN 16 S p))]) rfl ?_
    refine lv_pop hx hb dX6_soloName_20 rfl ?_
    refine lv_aload_n hx hb dX6_soloName_21 rfl (lv_at hl 0 rfl) ?_
    refine lv_iload_n hx hb dX6_soloName_22 rfl (lv_at hl 1 rfl) ?_
    refine rdV (nL := 2) (ci := 4) (q0 := 0) (cq := (RX6, TX6, 34)) hx hb hml hown hts hK hP [.int (nI p)] [] (c_X6_statusIn l D ca m r ((upd (upd (upd (upd (upd g 0 (nI 0)) 8 (nI (regs ((runS 16 S p) 3)))) 9 (nI (qn ((runS 16 S p) 3)))) 10 x) 11 y)) (qn ((runS 16 S p) 3)) rfl (qn_lt _) p hp3) gX6_soloName_X6_statusIn rfl ⟨rfl, qX6_statusIn⟩ ⟨Nat.le_of_ble_eq_true rfl, Nat.le_of_ble_eq_true rfl⟩ rfl rfl [0] rfl rfl hl.1 (Nat.le_of_ble_eq_true rfl) ⟨Nat.le_of_ble_eq_true rfl, Nat.le_of_ble_eq_true rfl⟩ dX6_soloName_23 ?_
    rw [show (nI (gF (qn ((runS 16 S p) 3)) (8 * p) 2)) = (nI (stC (runS 16 S p 3) p)) from (by rw [qn_st hp3])]
    refine lv_iconst (v := nI 1) hx hb dX6_soloName_26 (by decide) ?_
    refine n_ic_ne (tgt := 38) hx hb dX6_soloName_27 (by decide) (stC_b _ _) (by decide) (fun c27 => ?_) (fun c27 => ?_)
    · refine lv_bipush (v := -9) hx hb dX6_soloName_38 (by decide) ?_
      exact uRetI hx hb hr hlocks hK hP hD hS ⟨congrArg (fun z => some (Value.int z)) (((ansP_t (F := fun j => nmC (runS 16 S j 3) j) hp (by have := nmS_le hok; have := hok.2.1; omega)).trans (if_neg c27)).symm), _, (scr_u (by decide) (scr_u (by decide) (scr_u (by decide) (scr_u (by decide) (scr_u (by decide) (scr_r _)))))), rfl⟩ (Nat.le_of_ble_eq_true rfl) (Nat.le_of_ble_eq_true rfl) dX6_soloName_40
    · refine lv_aload_n hx hb dX6_soloName_30 rfl (lv_at hl 0 rfl) ?_
      refine lv_iload_n hx hb dX6_soloName_31 rfl (lv_at hl 1 rfl) ?_
      refine rdV (nL := 2) (ci := 4) (q0 := 0) (cq := (RX6, TX6, 34)) hx hb hml hown hts hK hP [.int (nI p)] [] (c_X6_splitterIn l D ca m r ((upd (upd (upd (upd (upd g 0 (nI 0)) 8 (nI (regs ((runS 16 S p) 3)))) 9 (nI (qn ((runS 16 S p) 3)))) 10 x) 11 y)) (qn ((runS 16 S p) 3)) rfl (qn_lt _) p hp3) gX6_soloName_X6_splitterIn rfl ⟨rfl, qX6_splitterIn⟩ ⟨Nat.le_of_ble_eq_true rfl, Nat.le_of_ble_eq_true rfl⟩ rfl rfl [0] rfl rfl hl.1 (Nat.le_of_ble_eq_true rfl) ⟨Nat.le_of_ble_eq_true rfl, Nat.le_of_ble_eq_true rfl⟩ dX6_soloName_32 ?_
      rw [show (nI (gF (qn ((runS 16 S p) 3)) (8 * p + 2) 4)) = (nI (spC (runS 16 S p 3) p)) from (by rw [qn_sp hp3, if_neg (by omega)])]
      refine lv_goto (tgt := 40) hx hb dX6_soloName_35 (by decide) ?_
      exact uRetI hx hb hr hlocks hK hP hD hS ⟨congrArg (fun z => some (Value.int z)) (((ansP_t (F := fun j => nmC (runS 16 S j 3) j) hp (by have := nmS_le hok; have := hok.2.1; omega)).trans (if_pos c27)).symm), _, (scr_u (by decide) (scr_u (by decide) (scr_u (by decide) (scr_u (by decide) (scr_u (by decide) (scr_r _)))))), rfl⟩ (Nat.le_of_ble_eq_true rfl) (Nat.le_of_ble_eq_true rfl) dX6_soloName_40
  · rw [bN_0] at c10
    refine lv_iconst (v := -1) hx hb dX6_soloName_13 (by decide) ?_
    exact uRetI hx hb hr hlocks hK hP hD hS ⟨congrArg (fun z => some (Value.int z)) (ansP_f c10).symm, _, (scr_u (by decide) (scr_r _)), rfl⟩ (Nat.le_of_ble_eq_true rfl) (Nat.le_of_ble_eq_true rfl) dX6_soloName_14

