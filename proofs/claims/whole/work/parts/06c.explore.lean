set_option maxHeartbeats 4000000 in
set_option maxRecDepth 100000 in
theorem c_X2_findNext (l : Launch) (D : va_G) (ca : Nat → ClassId) (xa fo pa mo ta ou st : Nat) (B : BL) (f0 : Nat → Int64) (p0 m0 : Nat → Int32) (t0 : Nat → Nat) (c : Nat) (S : Nat → Nat) (hok : SOK S) (hc0 : c < B.length) (hV0 : VB (S 0) B) (hR0 : RB B f0 p0 m0) (hH0 : HT hX (bC B) B.length t0) (hB0 : B.length ≤ 4000) : UP l D ca yX2_findNext wsX2_findNext 3 82 0 0 [(xa, .inr (0, [.ref fo, .ref pa, .ref mo, .ref ta, .ref ou, .int (nI B.length), .int (nI ((S 1)))])), (fo, .inl (ca 1, 4000, .inr (.inl f0))), (pa, .inl (ca 0, 4000, .inl p0)), (mo, .inl (ca 0, 4000, .inl m0)), (ta, .inl (ca 0, 8192, .inl (rwN t0))), (st, .inr (2, cS S))] [.ref xa, .int (nI c), .ref st] (fOm ca xa fo pa mo ta ou (S 1) (exB (S 0) (S 2) c (S 1) 0 B) [(st, .inr (2, cS S))]) := by
  refine UP.start (cc := cX2_findNext) (maxL := 8) (ret := (some .boolean)) (by decide) rfl (Nat.le_of_ble_eq_true rfl) ?_
  intro p_ e_ s_ m_ below_ meth_ c_ A hx hb hml hr hlocks hin hown hts hK hA hP hD hS ls hl
  have hown : s_.vm.findClass RX2 = some m_.cls := hown
  have hl : lv_has ls 8 [(0, .ref xa), (1, .int (nI c)), (2, .ref st)] := hl
  have hinX20 : ∀ w ∈ wsX20, w ∈ wsX2_findNext := fun w h => List.mem_cons_of_mem _ (List.mem_append_left _ (List.mem_append_right _ h))
  have hinX40 : ∀ w ∈ wsX40, w ∈ wsX2_findNext := fun w h => List.mem_cons_of_mem _ (List.mem_append_right _ h)
  have hk := hok.1
  have hn3 := hok.2.1
  have hg := hok.2.2.1
  have hC : VC (S 0) (bC B c) := hV0 c hc0
  obtain ⟨C, hCe0⟩ : ∃ C, C = bC B c := ⟨_, rfl⟩
  rw [← hCe0] at hC
  have hC1 := hC.1
  refine lv_aload_n hx hb dX2_findNext_0 rfl (lv_at hl 0 rfl) ?_
  refine lv_iload_n hx hb dX2_findNext_1 rfl (lv_at hl 1 rfl) ?_
  refine rdV (nL := 8) (ci := 0) (q0 := 0) (cq := (RX2, TX2, 7)) hx hb hml hown hts hK hP [.int (nI c)] [] (c_X2_foundAt l D ca xa fo pa mo ta ou B.length ((S 1)) f0 c (by omega)) gX2_findNext_X2_foundAt rfl ⟨rfl, qX2_foundAt⟩ ⟨Nat.le_of_ble_eq_true rfl, Nat.le_of_ble_eq_true rfl⟩ rfl rfl [0, 1] rfl rfl hl.1 (Nat.le_of_ble_eq_true rfl) ⟨Nat.le_of_ble_eq_true rfl, Nat.le_of_ble_eq_true rfl⟩ dX2_findNext_2 ?_
  rw [show ((f0 c)) = (lN C) from (by rw [hCe0]; exact (hR0 c hc0).1)]
  refine lv_lstore_n (lv' := [(3, .long (lN C)), (0, .ref xa), (1, .int (nI c)), (2, .ref st)]) hx hb dX2_findNext_5 rfl hl (by decide) rfl (fun ls hl => ?_)
  refine lv_iconst (v := nI 0) hx hb dX2_findNext_6 (by decide) ?_
  refine lv_istore (lv' := [(5, .int (nI 0)), (3, .long (lN C)), (0, .ref xa), (1, .int (nI c)), (2, .ref st)]) hx hb dX2_findNext_7 hl (by decide) rfl (fun ls hl => ?_)
  have loop9 : ∀ (N_ : Nat) (p : Nat) (d : Nat) (Bc : BL) (f : Nat → Int64) (pm : Nat → Int32) (mm : Nat → Int32) (t : Nat → Nat) (hj : p + d = S 1) (hs1 : exB (S 0) (S 2) c d p Bc = exB (S 0) (S 2) c (S 1) 0 B) (hc1 : c < Bc.length) (hCe : bC Bc c = C) (hV : VB (S 0) Bc) (hR : RB Bc f pm mm) (hH : HT hX (bC Bc) Bc.length t) (hBl : Bc.length ≤ 4000) (hf : S 1 < p + N_), ∀ (H : Heap) (locs : List Loc), va_P D vwCl [(xa, .inr (0, [.ref fo, .ref pa, .ref mo, .ref ta, .ref ou, .int (nI Bc.length), .int (nI ((S 1)))])), (fo, .inl (ca 1, 4000, .inr (.inl f))), (pa, .inl (ca 0, 4000, .inl pm)), (mo, .inl (ca 0, 4000, .inl mm)), (ta, .inl (ca 0, 8192, .inl (rwN t))), (st, .inr (2, cS S))] H → va_D A [(xa, .inr (0, [.ref fo, .ref pa, .ref mo, .ref ta, .ref ou, .int (nI Bc.length), .int (nI ((S 1)))])), (fo, .inl (ca 1, 4000, .inr (.inl f))), (pa, .inl (ca 0, 4000, .inl pm)), (mo, .inl (ca 0, 4000, .inl mm)), (ta, .inl (ca 0, 8192, .inl (rwN t))), (st, .inr (2, cS S))] → va_S A s_.heap H locs → ∀ (ls : Array Slot), lv_has ls 8 [(5, .int (nI p)), (3, .long (lN C)), (0, .ref xa), (1, .int (nI c)), (2, .ref st)] → W p_ l e_ ({ frames := 3, cells := 0, slots := 0, locals := 82 }) s_ m_ ([.ref xa, .int (nI c), .ref st]).toArray below_ meth_ c_ H locs 0 0 (MQ below_ (uQA D ca A (fOm ca xa fo pa mo ta ou (S 1) (exB (S 0) (S 2) c (S 1) 0 B) [(st, .inr (2, cS S))])) ([.ref xa, .int (nI c), .ref st]).toArray s_ 0 0 A) (F0 m_ 9 ls []) := by
    intro N_
    induction N_ with
    | zero => intro p d Bc f pm mm t hj hs1 hc1 hCe hV hR hH hBl hf; exfalso; omega
    | succ N_ ih9 =>
      intro p d Bc f pm mm t hj hs1 hc1 hCe hV hR hH hBl hf H locs hP hD hS ls hl
      refine lv_iload hx hb dX2_findNext_9 (lv_at hl 0 rfl) ?_
      refine lv_aload_n hx hb dX2_findNext_11 rfl (lv_at hl 2 rfl) ?_
      refine va_get (D := D) (ci := 0) (v := .int (nI ((S 1)))) (C := RX2) (T := TX2) (N := 7) hx hb hts hinX20 hown hK.1 hP 0 rfl rfl 6 (by decide) (hts (.fieldLink RX2 43 "RenamingGrid$Exploration" "processes" "I") (List.mem_of_getElem? (i := 1) rfl)) (fun _ h9 => h9) rfl dX2_findNext_12 ?_
      refine n_ic_ge (tgt := 63) hx hb dX2_findNext_15 (by decide) (by omega) (by omega) (fun c15 => ?_) (fun c15 => ?_)
      · refine lv_iconst (v := nI 1) hx hb dX2_findNext_63 (by decide) ?_
        have hd : d = 0 := by omega
        subst hd
        have hfin : exB (S 0) (S 2) c (S 1) 0 B = Bc := by rw [← hs1]; rfl
        exact uRetZ hx hb hr hlocks hK hP hD hS rfl ⟨f, pm, mm, t, Bc.length, rfl, Or.inl ⟨rfl, by rw [hfin]; exact ⟨hR, hH, rfl, hBl⟩⟩⟩ (Nat.le_of_ble_eq_true rfl) (Nat.le_of_ble_eq_true rfl) dX2_findNext_64
      · refine lv_lload_n hx hb dX2_findNext_18 rfl (lv_at hl 1 rfl) ?_
        refine lv_iload hx hb dX2_findNext_19 (lv_at hl 0 rfl) ?_
        refine rdS (nL := 8) hx hb hml hown hts hK hP [.long (lN C), .int (nI p)] [] (c_X0_statusIn l D ca C p hC1 (by omega)) gX2_findNext_X0_statusIn rfl qX0_statusIn ⟨Nat.le_of_ble_eq_true rfl, Nat.le_of_ble_eq_true rfl⟩ [] rfl rfl hl.1 (Nat.le_of_ble_eq_true rfl) ⟨Nat.le_of_ble_eq_true rfl, Nat.le_of_ble_eq_true rfl⟩ dX2_findNext_21 ?_
        refine n_if_ne (tgt := 57) hx hb dX2_findNext_24 (by decide) (stC_b _ _) (fun c24 => ?_) (fun c24 => ?_)
        · refine lv_iinc (v := (nI (p + 1))) (lv' := [(5, .int (nI (p + 1))), (3, .long (lN C)), (0, .ref xa), (1, .int (nI c)), (2, .ref st)]) hx hb dX2_findNext_57 hl (k := 0) rfl (show nI p + Int32.ofInt 1 = nI (p + 1) from nI_add _ 1) (by decide) rfl (fun ls hl => ?_)
          refine lv_goto (tgt := 9) hx hb dX2_findNext_60 (by decide) ?_
          obtain ⟨d2, rfl⟩ : ∃ d2, d = d2 + 1 := ⟨d - 1, by omega⟩
          exact ih9 (p + 1) d2 Bc f pm mm t (by omega) (by rw [← hs1]; symm; show exB _ _ _ _ _ (if _ then _ else _) = _; rw [hCe, if_neg c24]) hc1 hCe hV hR hH hBl (by omega) H locs hP hD hS ls (lv_sub hl [0, 1, 2, 3, 4] rfl)
        · have hs10 : spC C p < 10 := pOK_sp (hC.2 p (by omega))
          refine lv_lload_n hx hb dX2_findNext_27 rfl (lv_at hl 1 rfl) ?_
          refine lv_iload hx hb dX2_findNext_28 (lv_at hl 0 rfl) ?_
          refine lv_aload_n hx hb dX2_findNext_30 rfl (lv_at hl 4 rfl) ?_
          refine va_getN (D := D) (ci := 2) (v := .int (nI (S 0))) (C := RX4) (T := TX4) (N := 8) hx hb hts hinX40 hown hK.1 hP 5 rfl rfl 0 (by decide) (nw0 hK) (fun _ h9 => h9) rfl dX2_findNext_31 ?_
          refine lv_aload_n hx hb dX2_findNext_34 rfl (lv_at hl 4 rfl) ?_
          refine va_getN (D := D) (ci := 2) (v := .int (nI (S 2))) (C := RX4) (T := TX4) (N := 8) hx hb hts hinX40 hown hK.1 hP 5 rfl rfl 2 (by decide) (nw3 hK) (fun _ h9 => h9) rfl dX2_findNext_35 ?_
          refine rdS (nL := 8) hx hb hml hown hts hK hP [.long (lN C), .int (nI p), .int (nI (S 0)), .int (nI (S 2))] [] (c_X0_afterStep l D ca C p (S 0) (S 2) hC1 (by omega) hk.2 hg hs10) gX2_findNext_X0_afterStep rfl qX0_afterStep ⟨Nat.le_of_ble_eq_true rfl, Nat.le_of_ble_eq_true rfl⟩ [] rfl rfl hl.1 (Nat.le_of_ble_eq_true rfl) ⟨Nat.le_of_ble_eq_true rfl, Nat.le_of_ble_eq_true rfl⟩ dX2_findNext_38 ?_
          refine lv_lstore (lv' := [(6, .long (lN (stepC C p (S 0) (S 2)))), (5, .int (nI p)), (3, .long (lN C)), (0, .ref xa), (1, .int (nI c)), (2, .ref st)]) hx hb dX2_findNext_41 hl (by decide) rfl (fun ls hl => ?_)
          refine lv_aload_n hx hb dX2_findNext_43 rfl (lv_at hl 3 rfl) ?_
          refine lv_lload hx hb dX2_findNext_44 (lv_at hl 0 rfl) ?_
          refine lv_iload_n hx hb dX2_findNext_46 rfl (lv_at hl 4 rfl) ?_
          refine lv_iload hx hb dX2_findNext_47 (lv_at hl 1 rfl) ?_
          refine uV (nL := 8) (wr := [(st, .inr (2, cS S))]) (ci := 0) (q0 := 0) (cq := (RX2, TX2, 7)) hx hb hml hown hts hK hA hP hD hS [.long (lN (stepC C p (S 0) (S 2))), .int (nI c), .int (nI p)] [] (c_X2_find l D ca xa fo pa mo ta ou ((S 1)) Bc f pm mm t (stepC C p (S 0) (S 2)) c p (nI p) hR hH hBl (stepC_lt hC.1 (by omega) hk.2 hs10) (fun j hj => (hV j hj).1) (fun _ => rfl)) gX2_findNext_X2_find rfl ⟨rfl, qX2_find⟩ ⟨Nat.le_of_ble_eq_true rfl, Nat.le_of_ble_eq_true rfl⟩ rfl rfl [0, 1, 2, 3, 4] [5] rfl rfl (by decide) (by decide) rfl hl.1 (Nat.le_of_ble_eq_true rfl) ⟨Nat.le_of_ble_eq_true rfl, Nat.le_of_ble_eq_true rfl⟩ dX2_findNext_49 (fun v1 W1 H locs hO hP hD hS => ?_)
          obtain ⟨f2, p2, m2, t2, k2, rfl, hor⟩ := hO
          rcases hor with ⟨rfl, hx2⟩ | ⟨rfl, hx2⟩
          · obtain ⟨hR2, hH2, hc2, hB2⟩ := hx2
            subst hc2
            have hP : va_P D vwCl [(xa, .inr (0, [.ref fo, .ref pa, .ref mo, .ref ta, .ref ou, .int (nI (((pushB Bc (stepC C p (S 0) (S 2)) c p)).length)), .int (nI ((S 1)))])), (fo, .inl (ca 1, 4000, .inr (.inl f2))), (pa, .inl (ca 0, 4000, .inl p2)), (mo, .inl (ca 0, 4000, .inl m2)), (ta, .inl (ca 0, 8192, .inl (rwN t2))), (st, .inr (2, cS S))] H := hP.sub [1, 2, 3, 4, 5, 0] rfl
            have hD : va_D A [(xa, .inr (0, [.ref fo, .ref pa, .ref mo, .ref ta, .ref ou, .int (nI (((pushB Bc (stepC C p (S 0) (S 2)) c p)).length)), .int (nI ((S 1)))])), (fo, .inl (ca 1, 4000, .inr (.inl f2))), (pa, .inl (ca 0, 4000, .inl p2)), (mo, .inl (ca 0, 4000, .inl m2)), (ta, .inl (ca 0, 8192, .inl (rwN t2))), (st, .inr (2, cS S))] := hD.sub [1, 2, 3, 4, 5, 0] (by decide) rfl
            refine W.eq (g2 := F0 m_ 52 ls [.int (nI 1)]) rfl ?_
            refine n_if_ne (tgt := 57) hx hb dX2_findNext_52 (by decide) (by decide) (fun _ => ?_) (fun q => absurd q (by decide))
            refine lv_iinc (v := (nI (p + 1))) (lv' := [(5, .int (nI (p + 1))), (6, .long (lN (stepC C p (S 0) (S 2)))), (3, .long (lN C)), (0, .ref xa), (1, .int (nI c)), (2, .ref st)]) hx hb dX2_findNext_57 hl (k := 1) rfl (show nI p + Int32.ofInt 1 = nI (p + 1) from nI_add _ 1) (by decide) rfl (fun ls hl => ?_)
            refine lv_goto (tgt := 9) hx hb dX2_findNext_60 (by decide) ?_
            obtain ⟨d2, rfl⟩ : ∃ d2, d = d2 + 1 := ⟨d - 1, by omega⟩
            exact ih9 (p + 1) d2 ((pushB Bc (stepC C p (S 0) (S 2)) c p)) f2 p2 m2 t2 (by omega) (by rw [← hs1]; symm; show exB _ _ _ _ _ (if _ then _ else _) = _; rw [hCe, if_pos c24]) (Nat.lt_of_lt_of_le hc1 (push_len _ _ _ _).1) (by rw [bC_push hc1]; exact hCe) (VB_push hV (VC_step hC (by omega) hk c24)) hR2 hH2 hB2 (by omega) H locs hP hD hS ls (lv_sub hl [0, 2, 3, 4, 5] rfl)
          · have hP : va_P D vwCl [(xa, .inr (0, [.ref fo, .ref pa, .ref mo, .ref ta, .ref ou, .int (nI k2), .int (nI ((S 1)))])), (fo, .inl (ca 1, 4000, .inr (.inl f2))), (pa, .inl (ca 0, 4000, .inl p2)), (mo, .inl (ca 0, 4000, .inl m2)), (ta, .inl (ca 0, 8192, .inl (rwN t2))), (st, .inr (2, cS S))] H := hP.sub [1, 2, 3, 4, 5, 0] rfl
            have hD : va_D A [(xa, .inr (0, [.ref fo, .ref pa, .ref mo, .ref ta, .ref ou, .int (nI k2), .int (nI ((S 1)))])), (fo, .inl (ca 1, 4000, .inr (.inl f2))), (pa, .inl (ca 0, 4000, .inl p2)), (mo, .inl (ca 0, 4000, .inl m2)), (ta, .inl (ca 0, 8192, .inl (rwN t2))), (st, .inr (2, cS S))] := hD.sub [1, 2, 3, 4, 5, 0] (by decide) rfl
            refine W.eq (g2 := F0 m_ 52 ls [.int (nI 0)]) rfl ?_
            refine n_if_ne (tgt := 57) hx hb dX2_findNext_52 (by decide) (by decide) (fun q => absurd q (by decide)) (fun _ => ?_)
            refine lv_iconst (v := nI 0) hx hb dX2_findNext_55 (by decide) ?_
            obtain ⟨d2, rfl⟩ : ∃ d2, d = d2 + 1 := ⟨d - 1, by omega⟩
            have hfin : exB (S 0) (S 2) c (S 1) 0 B = (pushB Bc (stepC C p (S 0) (S 2)) c p) := by rw [← hs1]; show exB _ _ _ _ _ (if _ then _ else _) = _; rw [hCe, if_pos c24, exB_full hx2]
            exact uRetZ hx hb hr hlocks hK hP hD hS rfl ⟨f2, p2, m2, t2, k2, rfl, Or.inr ⟨rfl, by rw [hfin]; exact hx2⟩⟩ (Nat.le_of_ble_eq_true rfl) (Nat.le_of_ble_eq_true rfl) dX2_findNext_56
  exact loop9 (S 1 + 1) 0 (S 1) B f0 p0 m0 t0 (by omega) rfl hc0 hCe0.symm hV0 hR0 hH0 hB0 (by omega) _ _ hP hD hS ls (lv_sub hl [0, 1, 2, 3, 4] rfl)

set_option maxHeartbeats 4000000 in
set_option maxRecDepth 100000 in
theorem c_X2_findAllFrom (l : Launch) (D : va_G) (ca : Nat → ClassId) (xa fo pa mo ta ou st : Nat) (cnt pr : Nat) (f0 : Nat → Int64) (p0 m0 : Nat → Int32) (t0 : Nat → Nat) (S : Nat → Nat) (hok : SOK S) : UP l D ca yX2_findAllFrom wsX2_findAllFrom 4 109 0 0 [(xa, .inr (0, [.ref fo, .ref pa, .ref mo, .ref ta, .ref ou, .int (nI cnt), .int (nI pr)])), (fo, .inl (ca 1, 4000, .inr (.inl f0))), (pa, .inl (ca 0, 4000, .inl p0)), (mo, .inl (ca 0, 4000, .inl m0)), (ta, .inl (ca 0, 8192, .inl (rwN t0))), (st, .inr (2, cS S))] [.ref xa, .ref st] (fOm ca xa fo pa mo ta ou (S 1) (BF S) [(st, .inr (2, cS S))]) := by
  refine UP.start (cc := cX2_findAllFrom) (maxL := 4) (ret := (some .boolean)) (by decide) rfl (Nat.le_of_ble_eq_true rfl) ?_
  intro p_ e_ s_ m_ below_ meth_ c_ A hx hb hml hr hlocks hin hown hts hK hA hP hD hS ls hl
  have hown : s_.vm.findClass RX2 = some m_.cls := hown
  have hl : lv_has ls 4 [(0, .ref xa), (1, .ref st)] := hl
  have hinX20 : ∀ w ∈ wsX20, w ∈ wsX2_findAllFrom := fun w h => List.mem_cons_of_mem _ (List.mem_append_left _ (List.mem_append_right _ h))
  have hinX40 : ∀ w ∈ wsX40, w ∈ wsX2_findAllFrom := fun w h => List.mem_cons_of_mem _ (List.mem_append_right _ h)
  have hroot : pushB [] (S 3) 0 9 = [(S 3, 0, 9)] := push_f (fun j hj => absurd hj (Nat.not_lt_zero j)) (by decide)
  have hn3 := hok.2.1
  refine lv_aload_n hx hb dX2_findAllFrom_0 rfl (lv_at hl 0 rfl) ?_
  refine va_get (D := D) (ci := 0) (v := .ref ta) (C := RX2) (T := TX2) (N := 7) hx hb hts hinX20 hown hK.1 hP 0 rfl rfl 3 (by decide) (hts (.fieldLink RX2 22 "RenamingGrid$Exploration" "table" "[I") (List.mem_of_getElem? (i := 1) rfl)) (fun _ h9 => h9) rfl dX2_findAllFrom_1 ?_
  refine lv_iconst (v := nI 0) hx hb dX2_findAllFrom_4 (by decide) ?_
  refine uS (nL := 4) (wr := [(xa, .inr (0, [.ref fo, .ref pa, .ref mo, .ref ta, .ref ou, .int (nI cnt), .int (nI pr)])), (fo, .inl (ca 1, 4000, .inr (.inl f0))), (pa, .inl (ca 0, 4000, .inl p0)), (mo, .inl (ca 0, 4000, .inl m0)), (st, .inr (2, cS S))]) hx hb hml hown hts hK hA hP hD hS [.ref ta, .int (nI 0)] [] (c_J7_fill_53178 l D ca ta 8192 (nI 0) (rwN t0) (by decide)) gX2_findAllFrom_J7_fill_53178 rfl qJ7_fill_53178 ⟨Nat.le_of_ble_eq_true rfl, Nat.le_of_ble_eq_true rfl⟩ [4] [0, 1, 2, 3, 5] rfl rfl (by decide) (by decide) rfl hl.1 (Nat.le_of_ble_eq_true rfl) ⟨Nat.le_of_ble_eq_true rfl, Nat.le_of_ble_eq_true rfl⟩ dX2_findAllFrom_5 (oneK (wsN := [(xa, .inr (0, [.ref fo, .ref pa, .ref mo, .ref ta, .ref ou, .int (nI cnt), .int (nI pr)])), (fo, .inl (ca 1, 4000, .inr (.inl f0))), (pa, .inl (ca 0, 4000, .inl p0)), (mo, .inl (ca 0, 4000, .inl m0)), (ta, .inl (ca 0, 8192, .inl (rwN (fun _ => 0)))), (st, .inr (2, cS S))]) [0, 1, 2, 3, 5, 4] (by decide) rfl (st1 := []) rfl 0 0 rfl rfl (fun H locs hP hD hS => ?_))
  refine lv_aload_n hx hb dX2_findAllFrom_8 rfl (lv_at hl 0 rfl) ?_
  refine lv_iconst (v := nI 0) hx hb dX2_findAllFrom_9 (by decide) ?_
  refine va_put (D := D) (ci := 0) (v := .int (nI 0)) (ty := tyX2 5) (C := RX2) (T := TX2) (N := 7) hx hb hts hinX20 tyX2 tyX2_ok nmX2 hown hK.1 hP hD hS 0 rfl rfl 5 (by decide) (hts (.fieldLink RX2 34 "RenamingGrid$Exploration" "count" "I") (List.mem_of_getElem? (i := 2) rfl)) (fun _ h9 => h9) rfl (tyX2_ok 5 (by decide)) rfl rfl (Nat.le_of_ble_eq_true rfl) dX2_findAllFrom_10 (fun H locs hP hD hS => ?_)
  have hP : va_P D vwCl [(xa, .inr (0, [.ref fo, .ref pa, .ref mo, .ref ta, .ref ou, .int (nI 0), .int (nI pr)])), (fo, .inl (ca 1, 4000, .inr (.inl f0))), (pa, .inl (ca 0, 4000, .inl p0)), (mo, .inl (ca 0, 4000, .inl m0)), (ta, .inl (ca 0, 8192, .inl (rwN (fun _ => 0)))), (st, .inr (2, cS S))] H := hP
  have hD : va_D A [(xa, .inr (0, [.ref fo, .ref pa, .ref mo, .ref ta, .ref ou, .int (nI 0), .int (nI pr)])), (fo, .inl (ca 1, 4000, .inr (.inl f0))), (pa, .inl (ca 0, 4000, .inl p0)), (mo, .inl (ca 0, 4000, .inl m0)), (ta, .inl (ca 0, 8192, .inl (rwN (fun _ => 0)))), (st, .inr (2, cS S))] := hD
  refine lv_aload_n hx hb dX2_findAllFrom_13 rfl (lv_at hl 0 rfl) ?_
  refine lv_aload_n hx hb dX2_findAllFrom_14 rfl (lv_at hl 1 rfl) ?_
  refine va_getN (D := D) (ci := 2) (v := .int (nI (S 1))) (C := RX4) (T := TX4) (N := 8) hx hb hts hinX40 hown hK.1 hP 5 rfl rfl 1 (by decide) (nw1 hK) (fun _ h9 => h9) rfl dX2_findAllFrom_15 ?_
  refine va_put (D := D) (ci := 0) (v := .int (nI (S 1))) (ty := tyX2 6) (C := RX2) (T := TX2) (N := 7) hx hb hts hinX20 tyX2 tyX2_ok nmX2 hown hK.1 hP hD hS 0 rfl rfl 6 (by decide) (hts (.fieldLink RX2 43 "RenamingGrid$Exploration" "processes" "I") (List.mem_of_getElem? (i := 3) rfl)) (fun _ h9 => h9) rfl (tyX2_ok 6 (by decide)) rfl rfl (Nat.le_of_ble_eq_true rfl) dX2_findAllFrom_18 (fun H locs hP hD hS => ?_)
  have hP : va_P D vwCl [(xa, .inr (0, [.ref fo, .ref pa, .ref mo, .ref ta, .ref ou, .int (nI 0), .int (nI (S 1))])), (fo, .inl (ca 1, 4000, .inr (.inl f0))), (pa, .inl (ca 0, 4000, .inl p0)), (mo, .inl (ca 0, 4000, .inl m0)), (ta, .inl (ca 0, 8192, .inl (rwN (fun _ => 0)))), (st, .inr (2, cS S))] H := hP
  have hD : va_D A [(xa, .inr (0, [.ref fo, .ref pa, .ref mo, .ref ta, .ref ou, .int (nI 0), .int (nI (S 1))])), (fo, .inl (ca 1, 4000, .inr (.inl f0))), (pa, .inl (ca 0, 4000, .inl p0)), (mo, .inl (ca 0, 4000, .inl m0)), (ta, .inl (ca 0, 8192, .inl (rwN (fun _ => 0)))), (st, .inr (2, cS S))] := hD
  refine lv_aload_n hx hb dX2_findAllFrom_21 rfl (lv_at hl 0 rfl) ?_
  refine lv_aload_n hx hb dX2_findAllFrom_22 rfl (lv_at hl 1 rfl) ?_
  refine va_getN (D := D) (ci := 2) (v := .long (lN (S 3))) (C := RX4) (T := TX4) (N := 8) hx hb hts hinX40 hown hK.1 hP 5 rfl rfl 3 (by decide) (nw4 hK) (fun _ h9 => h9) rfl dX2_findAllFrom_23 ?_
  refine lv_iconst (v := nI 0) hx hb dX2_findAllFrom_26 (by decide) ?_
  refine lv_bipush (v := -9) hx hb dX2_findAllFrom_27 (by decide) ?_
  refine uV (nL := 4) (wr := [(st, .inr (2, cS S))]) (ci := 0) (q0 := 0) (cq := (RX2, TX2, 7)) hx hb hml hown hts hK hA hP hD hS [.long (lN (S 3)), .int (nI 0), .int ((-9))] [] (c_X2_find l D ca xa fo pa mo ta ou (S 1) [] f0 p0 m0 (fun _ => 0) (S 3) 0 9 (-9) (fun i hi => absurd hi (Nat.not_lt_zero i)) (ht_0 _ _) (by decide) hok.2.2.2.1 (fun j hj => absurd hj (Nat.not_lt_zero j)) (fun h => absurd h (Nat.lt_irrefl 0))) gX2_findAllFrom_X2_find rfl ⟨rfl, qX2_find⟩ ⟨Nat.le_of_ble_eq_true rfl, Nat.le_of_ble_eq_true rfl⟩ rfl rfl [0, 1, 2, 3, 4] [5] rfl rfl (by decide) (by decide) rfl hl.1 (Nat.le_of_ble_eq_true rfl) ⟨Nat.le_of_ble_eq_true rfl, Nat.le_of_ble_eq_true rfl⟩ dX2_findAllFrom_29 (fun v1 W1 H locs hO hP hD hS => ?_)
  obtain ⟨f2, p2, m2, t2, k2, rfl, hor⟩ := hO
  rcases hor with ⟨rfl, hx2⟩ | ⟨rfl, hx2⟩
  · obtain ⟨hR2, hH2, hc2, hB2⟩ := hx2
    subst hc2
    have hP : va_P D vwCl [(xa, .inr (0, [.ref fo, .ref pa, .ref mo, .ref ta, .ref ou, .int (nI (((pushB [] (S 3) 0 9)).length)), .int (nI (S 1))])), (fo, .inl (ca 1, 4000, .inr (.inl f2))), (pa, .inl (ca 0, 4000, .inl p2)), (mo, .inl (ca 0, 4000, .inl m2)), (ta, .inl (ca 0, 8192, .inl (rwN t2))), (st, .inr (2, cS S))] H := hP.sub [1, 2, 3, 4, 5, 0] rfl
    have hD : va_D A [(xa, .inr (0, [.ref fo, .ref pa, .ref mo, .ref ta, .ref ou, .int (nI (((pushB [] (S 3) 0 9)).length)), .int (nI (S 1))])), (fo, .inl (ca 1, 4000, .inr (.inl f2))), (pa, .inl (ca 0, 4000, .inl p2)), (mo, .inl (ca 0, 4000, .inl m2)), (ta, .inl (ca 0, 8192, .inl (rwN t2))), (st, .inr (2, cS S))] := hD.sub [1, 2, 3, 4, 5, 0] (by decide) rfl
    refine W.eq (g2 := F0 m_ 32 ls [.int (nI 1)]) rfl ?_
    rw [hroot] at hR2 hH2 hB2
    refine lv_istore_n (lv' := [(2, .int (nI 1)), (0, .ref xa), (1, .ref st)]) hx hb dX2_findAllFrom_32 rfl hl (by decide) rfl (fun ls hl => ?_)
    refine lv_iconst (v := nI 0) hx hb dX2_findAllFrom_33 (by decide) ?_
    refine lv_istore_n (lv' := [(3, .int (nI 0)), (2, .int (nI 1)), (0, .ref xa), (1, .ref st)]) hx hb dX2_findAllFrom_34 rfl hl (by decide) rfl (fun ls hl => ?_)
    have loop35 : ∀ (N_ : Nat) (c : Nat) (u : Nat) (Bc : BL) (f : Nat → Int64) (pm : Nat → Int32) (mm : Nat → Int32) (t : Nat → Nat) (hj : c + u = 4001) (hs1 : bfL (S 0) (S 2) (S 1) u c Bc = BF S) (hV : VB (S 0) Bc) (hR : RB Bc f pm mm) (hH : HT hX (bC Bc) Bc.length t) (hBl : Bc.length ≤ 4000) (hf : 4001 < c + N_), ∀ (H : Heap) (locs : List Loc), va_P D vwCl [(xa, .inr (0, [.ref fo, .ref pa, .ref mo, .ref ta, .ref ou, .int (nI Bc.length), .int (nI ((S 1)))])), (fo, .inl (ca 1, 4000, .inr (.inl f))), (pa, .inl (ca 0, 4000, .inl pm)), (mo, .inl (ca 0, 4000, .inl mm)), (ta, .inl (ca 0, 8192, .inl (rwN t))), (st, .inr (2, cS S))] H → va_D A [(xa, .inr (0, [.ref fo, .ref pa, .ref mo, .ref ta, .ref ou, .int (nI Bc.length), .int (nI ((S 1)))])), (fo, .inl (ca 1, 4000, .inr (.inl f))), (pa, .inl (ca 0, 4000, .inl pm)), (mo, .inl (ca 0, 4000, .inl mm)), (ta, .inl (ca 0, 8192, .inl (rwN t))), (st, .inr (2, cS S))] → va_S A s_.heap H locs → ∀ (ls : Array Slot), lv_has ls 4 [(3, .int (nI c)), (2, .int (nI 1)), (0, .ref xa), (1, .ref st)] → W p_ l e_ ({ frames := 4, cells := 0, slots := 0, locals := 109 }) s_ m_ ([.ref xa, .ref st]).toArray below_ meth_ c_ H locs 0 0 (MQ below_ (uQA D ca A (fOm ca xa fo pa mo ta ou (S 1) (BF S) [(st, .inr (2, cS S))])) ([.ref xa, .ref st]).toArray s_ 0 0 A) (F0 m_ 35 ls []) := by
      intro N_
      induction N_ with
      | zero => intro c u Bc f pm mm t hj hs1 hV hR hH hBl hf; exfalso; omega
      | succ N_ ih35 =>
        intro c u Bc f pm mm t hj hs1 hV hR hH hBl hf H locs hP hD hS ls hl
        refine lv_iload_n hx hb dX2_findAllFrom_35 rfl (lv_at hl 1 rfl) ?_
        refine n_if_eq (tgt := 67) hx hb dX2_findAllFrom_36 (by decide) (by decide) (fun q => absurd q (by decide)) (fun _ => ?_)
        refine lv_iload_n hx hb dX2_findAllFrom_39 rfl (lv_at hl 0 rfl) ?_
        refine lv_aload_n hx hb dX2_findAllFrom_40 rfl (lv_at hl 2 rfl) ?_
        refine va_get (D := D) (ci := 0) (v := .int (nI Bc.length)) (C := RX2) (T := TX2) (N := 7) hx hb hts hinX20 hown hK.1 hP 0 rfl rfl 5 (by decide) (hts (.fieldLink RX2 34 "RenamingGrid$Exploration" "count" "I") (List.mem_of_getElem? (i := 2) rfl)) (fun _ h9 => h9) rfl dX2_findAllFrom_41 ?_
        refine n_ic_ge (tgt := 67) hx hb dX2_findAllFrom_44 (by decide) (by omega) (by omega) (fun c44 => ?_) (fun c44 => ?_)
        · refine lv_iload_n hx hb dX2_findAllFrom_67 rfl (lv_at hl 1 rfl) ?_
          have hfin : BF S = Bc := by rw [← hs1]; cases u with | zero => rfl | succ u => show (if _ then _ else _) = _; rw [if_neg (by omega)]
          exact uRetZ hx hb hr hlocks hK hP hD hS rfl ⟨f, pm, mm, t, Bc.length, rfl, Or.inl ⟨rfl, by rw [hfin]; exact ⟨hR, hH, rfl, hBl⟩⟩⟩ (Nat.le_of_ble_eq_true rfl) (Nat.le_of_ble_eq_true rfl) dX2_findAllFrom_68
        · refine lv_iload_n hx hb dX2_findAllFrom_47 rfl (lv_at hl 0 rfl) ?_
          refine lv_sipush (v := nI 4000) hx hb dX2_findAllFrom_48 (by decide) ?_
          refine n_ic_ge (tgt := 67) hx hb dX2_findAllFrom_51 (by decide) (by omega) (by decide) (fun c51 => absurd c51 (by omega)) (fun c51 => ?_)
          refine lv_aload_n hx hb dX2_findAllFrom_54 rfl (lv_at hl 2 rfl) ?_
          refine lv_iload_n hx hb dX2_findAllFrom_55 rfl (lv_at hl 0 rfl) ?_
          refine lv_aload_n hx hb dX2_findAllFrom_56 rfl (lv_at hl 3 rfl) ?_
          refine uV (nL := 4) (wr := []) (ci := 0) (q0 := 0) (cq := (RX2, TX2, 7)) hx hb hml hown hts hK hA hP hD hS [.int (nI c), .ref st] [] (c_X2_findNext l D ca xa fo pa mo ta ou st Bc f pm mm t c S hok c44 hV hR hH hBl) gX2_findAllFrom_X2_findNext rfl ⟨rfl, qX2_findNext⟩ ⟨Nat.le_of_ble_eq_true rfl, Nat.le_of_ble_eq_true rfl⟩ rfl rfl [0, 1, 2, 3, 4, 5] [] rfl rfl (by decide) (by decide) rfl hl.1 (Nat.le_of_ble_eq_true rfl) ⟨Nat.le_of_ble_eq_true rfl, Nat.le_of_ble_eq_true rfl⟩ dX2_findAllFrom_57 (fun v1 W1 H locs hO hP hD hS => ?_)
          obtain ⟨f3, p3, m3, t3, k3, rfl, hor⟩ := hO
          rcases hor with ⟨rfl, hx2⟩ | ⟨rfl, hx2⟩
          · obtain ⟨hR3, hH3, hc3, hB3⟩ := hx2
            subst hc3
            have hP : va_P D vwCl [(xa, .inr (0, [.ref fo, .ref pa, .ref mo, .ref ta, .ref ou, .int (nI (((exB (S 0) (S 2) c (S 1) 0 Bc)).length)), .int (nI ((S 1)))])), (fo, .inl (ca 1, 4000, .inr (.inl f3))), (pa, .inl (ca 0, 4000, .inl p3)), (mo, .inl (ca 0, 4000, .inl m3)), (ta, .inl (ca 0, 8192, .inl (rwN t3))), (st, .inr (2, cS S))] H := hP.sub [0, 1, 2, 3, 4, 5] rfl
            have hD : va_D A [(xa, .inr (0, [.ref fo, .ref pa, .ref mo, .ref ta, .ref ou, .int (nI (((exB (S 0) (S 2) c (S 1) 0 Bc)).length)), .int (nI ((S 1)))])), (fo, .inl (ca 1, 4000, .inr (.inl f3))), (pa, .inl (ca 0, 4000, .inl p3)), (mo, .inl (ca 0, 4000, .inl m3)), (ta, .inl (ca 0, 8192, .inl (rwN t3))), (st, .inr (2, cS S))] := hD.sub [0, 1, 2, 3, 4, 5] (by decide) rfl
            refine W.eq (g2 := F0 m_ 60 ls [.int (nI 1)]) rfl ?_
            refine lv_istore_n (lv' := [(2, .int (nI 1)), (3, .int (nI c)), (0, .ref xa), (1, .ref st)]) hx hb dX2_findAllFrom_60 rfl hl (by decide) rfl (fun ls hl => ?_)
            refine lv_iinc (v := (nI (c + 1))) (lv' := [(3, .int (nI (c + 1))), (2, .int (nI 1)), (0, .ref xa), (1, .ref st)]) hx hb dX2_findAllFrom_61 hl (k := 1) rfl (show nI c + Int32.ofInt 1 = nI (c + 1) from nI_add _ 1) (by decide) rfl (fun ls hl => ?_)
            refine lv_goto (tgt := 35) hx hb dX2_findAllFrom_64 (by decide) ?_
            obtain ⟨u2, rfl⟩ : ∃ u2, u = u2 + 1 := ⟨u - 1, by omega⟩
            exact ih35 (c + 1) u2 ((exB (S 0) (S 2) c (S 1) 0 Bc)) f3 p3 m3 t3 (by omega) (by rw [← hs1]; symm; show (if _ then _ else _) = _; rw [if_pos ⟨c44, hBl⟩]) (VB_ex hok.1 (by omega) c44 hV) hR3 hH3 hB3 (by omega) H locs hP hD hS ls (lv_sub hl [0, 1, 2, 3] rfl)
          · have hP : va_P D vwCl [(xa, .inr (0, [.ref fo, .ref pa, .ref mo, .ref ta, .ref ou, .int (nI k3), .int (nI ((S 1)))])), (fo, .inl (ca 1, 4000, .inr (.inl f3))), (pa, .inl (ca 0, 4000, .inl p3)), (mo, .inl (ca 0, 4000, .inl m3)), (ta, .inl (ca 0, 8192, .inl (rwN t3))), (st, .inr (2, cS S))] H := hP.sub [0, 1, 2, 3, 4, 5] rfl
            have hD : va_D A [(xa, .inr (0, [.ref fo, .ref pa, .ref mo, .ref ta, .ref ou, .int (nI k3), .int (nI ((S 1)))])), (fo, .inl (ca 1, 4000, .inr (.inl f3))), (pa, .inl (ca 0, 4000, .inl p3)), (mo, .inl (ca 0, 4000, .inl m3)), (ta, .inl (ca 0, 8192, .inl (rwN t3))), (st, .inr (2, cS S))] := hD.sub [0, 1, 2, 3, 4, 5] (by decide) rfl
            refine W.eq (g2 := F0 m_ 60 ls [.int (nI 0)]) rfl ?_
            refine lv_istore_n (lv' := [(2, .int (nI 0)), (3, .int (nI c)), (0, .ref xa), (1, .ref st)]) hx hb dX2_findAllFrom_60 rfl hl (by decide) rfl (fun ls hl => ?_)
            refine lv_iinc (v := (nI (c + 1))) (lv' := [(3, .int (nI (c + 1))), (2, .int (nI 0)), (0, .ref xa), (1, .ref st)]) hx hb dX2_findAllFrom_61 hl (k := 1) rfl (show nI c + Int32.ofInt 1 = nI (c + 1) from nI_add _ 1) (by decide) rfl (fun ls hl => ?_)
            refine lv_goto (tgt := 35) hx hb dX2_findAllFrom_64 (by decide) ?_
            refine lv_iload_n hx hb dX2_findAllFrom_35 rfl (lv_at hl 1 rfl) ?_
            refine n_if_eq (tgt := 67) hx hb dX2_findAllFrom_36 (by decide) (by decide) (fun _ => ?_) (fun q => absurd q (by decide))
            refine lv_iload_n hx hb dX2_findAllFrom_67 rfl (lv_at hl 1 rfl) ?_
            obtain ⟨u2, rfl⟩ : ∃ u2, u = u2 + 1 := ⟨u - 1, by omega⟩
            have hfin : BF S = (exB (S 0) (S 2) c (S 1) 0 Bc) := by rw [← hs1]; show (if _ then _ else _) = _; rw [if_pos ⟨c44, hBl⟩, bfL_full hx2]
            exact uRetZ hx hb hr hlocks hK hP hD hS rfl ⟨f3, p3, m3, t3, k3, rfl, Or.inr ⟨rfl, by rw [hfin]; exact hx2⟩⟩ (Nat.le_of_ble_eq_true rfl) (Nat.le_of_ble_eq_true rfl) dX2_findAllFrom_68
    exact loop35 4002 0 4001 ([(S 3, 0, 9)]) f2 p2 m2 t2 (by omega) rfl (fun j hj => by rw [List.length_singleton] at hj; rw [show j = 0 by omega]; exact VC_S hok) hR2 hH2 hB2 (by omega) _ _ hP hD hS ls (lv_sub hl [0, 1, 2, 3] rfl)
  · have hP : va_P D vwCl [(xa, .inr (0, [.ref fo, .ref pa, .ref mo, .ref ta, .ref ou, .int (nI k2), .int (nI (S 1))])), (fo, .inl (ca 1, 4000, .inr (.inl f2))), (pa, .inl (ca 0, 4000, .inl p2)), (mo, .inl (ca 0, 4000, .inl m2)), (ta, .inl (ca 0, 8192, .inl (rwN t2))), (st, .inr (2, cS S))] H := hP.sub [1, 2, 3, 4, 5, 0] rfl
    have hD : va_D A [(xa, .inr (0, [.ref fo, .ref pa, .ref mo, .ref ta, .ref ou, .int (nI k2), .int (nI (S 1))])), (fo, .inl (ca 1, 4000, .inr (.inl f2))), (pa, .inl (ca 0, 4000, .inl p2)), (mo, .inl (ca 0, 4000, .inl m2)), (ta, .inl (ca 0, 8192, .inl (rwN t2))), (st, .inr (2, cS S))] := hD.sub [1, 2, 3, 4, 5, 0] (by decide) rfl
    refine W.eq (g2 := F0 m_ 32 ls [.int (nI 0)]) rfl ?_
    rw [hroot, List.length_singleton] at hx2
    exact absurd hx2 (by decide)

