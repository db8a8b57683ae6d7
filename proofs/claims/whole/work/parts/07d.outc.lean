set_option maxHeartbeats 4000000 in
set_option maxRecDepth 100000 in
theorem c_J13_bitCount_95d88 (l : Launch) (D : va_G) (ca : Nat → ClassId) (w : Nat) (hw : w < 2 ^ 64) : RD l D ca yJ13_bitCount_95d88 wsJ13_bitCount_95d88 0 0 [] [.long (lN w)] (.int (nI (fb_ct (fun j => w.testBit j) 64))) := by
  refine RD.start (cc := cJ13_bitCount_95d88) (maxL := 2) (ret := (some .int)) (by decide) rfl (Nat.le_of_ble_eq_true rfl) ?_
  intro p_ e_ s_ m_ below_ meth_ c_ hx hb hml hr hlocks hown hts hP hK ls hl
  have hown : s_.vm.findClass RJ13 = some m_.cls := hown
  have hl : lv_has ls 2 [(0, .long (lN w))] := hl
  have hw8 : w < 256 ^ 8 := hw
  have ht1 : t1 8 w ≤ 255 * 72340172838076673 := by have := t1_le (L := 8) (X := w); rw [msk1] at this; exact this
  have ht2 : t2 8 w ≤ 68 * 72340172838076673 := by have := t2_le (L := 8) (X := w); rw [msk1] at this; exact this
  have ht3 : t3 8 w ≤ 8 * 72340172838076673 := by have := t3_le (L := 8) (X := w); rw [msk1] at this; exact this
  refine lv_lload_n hx hb dJ13_bitCount_95d88_0 rfl (lv_at hl 0 rfl) ?_
  refine lv_lload_n hx hb dJ13_bitCount_95d88_1 rfl (lv_at hl 0 rfl) ?_
  refine lv_iconst (v := nI 1) hx hb dJ13_bitCount_95d88_2 (by decide) ?_
  refine n_lushr hx hb (by omega) (by omega) dJ13_bitCount_95d88_3 ?_
  refine lv_ldc2 (v := lN 6148914691236517205) hx hb hown (hts (.constantLong RJ13 314 (6148914691236517205)) (List.mem_of_getElem? (i := 1) rfl)) dJ13_bitCount_95d88_4 ?_
  rw [show (lN 6148914691236517205) = (lN (msk 85 8)) from (by rw [show msk 85 8 = 6148914691236517205 from by decide])]
  refine lv_land hx hb dJ13_bitCount_95d88_7 ?_
  rw [show (((lN (w / 2 ^ 1)) &&& (lN (msk 85 8)))) = (lN ((w / 2 ^ 1) &&& (msk 85 8))) from (wb_and (by omega) (by decide))]
  refine lv_lsub hx hb dJ13_bitCount_95d88_8 ?_
  rw [show (((lN w) - (lN ((w / 2 ^ 1) &&& (msk 85 8))))) = (lN (t1 8 w)) from (by rw [lN_sub (t1_eq hw8).1, (t1_eq hw8).2])]
  refine lv_lstore_n (lv' := [(0, .long (lN (t1 8 w)))]) hx hb dJ13_bitCount_95d88_9 rfl hl (by decide) rfl (fun ls hl => ?_)
  refine lv_lload_n hx hb dJ13_bitCount_95d88_10 rfl (lv_at hl 0 rfl) ?_
  refine lv_ldc2 (v := lN 3689348814741910323) hx hb hown (hts (.constantLong RJ13 316 (3689348814741910323)) (List.mem_of_getElem? (i := 2) rfl)) dJ13_bitCount_95d88_11 ?_
  rw [show (lN 3689348814741910323) = (lN (msk 51 8)) from (by rw [show msk 51 8 = 3689348814741910323 from by decide])]
  refine lv_land hx hb dJ13_bitCount_95d88_14 ?_
  rw [show (((lN (t1 8 w)) &&& (lN (msk 51 8)))) = (lN ((t1 8 w) &&& (msk 51 8))) from (wb_and (by omega) (by decide))]
  refine lv_lload_n hx hb dJ13_bitCount_95d88_15 rfl (lv_at hl 0 rfl) ?_
  refine lv_iconst (v := nI 2) hx hb dJ13_bitCount_95d88_16 (by decide) ?_
  refine n_lushr hx hb (by omega) (by omega) dJ13_bitCount_95d88_17 ?_
  refine lv_ldc2 (v := lN 3689348814741910323) hx hb hown (hts (.constantLong RJ13 316 (3689348814741910323)) (List.mem_of_getElem? (i := 2) rfl)) dJ13_bitCount_95d88_18 ?_
  rw [show (lN 3689348814741910323) = (lN (msk 51 8)) from (by rw [show msk 51 8 = 3689348814741910323 from by decide])]
  refine lv_land hx hb dJ13_bitCount_95d88_21 ?_
  rw [show (((lN ((t1 8 w) / 2 ^ 2)) &&& (lN (msk 51 8)))) = (lN (((t1 8 w) / 2 ^ 2) &&& (msk 51 8))) from (wb_and (by omega) (by decide))]
  refine n_ladd hx hb dJ13_bitCount_95d88_22 ?_
  rw [show (lN (((t1 8 w) &&& (msk 51 8)) + (((t1 8 w) / 2 ^ 2) &&& (msk 51 8)))) = (lN (t2 8 w)) from (congrArg lN t2_eq)]
  refine lv_lstore_n (lv' := [(0, .long (lN (t2 8 w)))]) hx hb dJ13_bitCount_95d88_23 rfl hl (by decide) rfl (fun ls hl => ?_)
  refine lv_lload_n hx hb dJ13_bitCount_95d88_24 rfl (lv_at hl 0 rfl) ?_
  refine lv_lload_n hx hb dJ13_bitCount_95d88_25 rfl (lv_at hl 0 rfl) ?_
  refine lv_iconst (v := nI 4) hx hb dJ13_bitCount_95d88_26 (by decide) ?_
  refine n_lushr hx hb (by omega) (by omega) dJ13_bitCount_95d88_27 ?_
  refine n_ladd hx hb dJ13_bitCount_95d88_28 ?_
  refine lv_ldc2 (v := lN 1085102592571150095) hx hb hown (hts (.constantLong RJ13 318 (1085102592571150095)) (List.mem_of_getElem? (i := 3) rfl)) dJ13_bitCount_95d88_29 ?_
  rw [show (lN 1085102592571150095) = (lN (msk 15 8)) from (by rw [show msk 15 8 = 1085102592571150095 from by decide])]
  refine lv_land hx hb dJ13_bitCount_95d88_32 ?_
  rw [show (((lN ((t2 8 w) + ((t2 8 w) / 2 ^ 4))) &&& (lN (msk 15 8)))) = (lN (((t2 8 w) + ((t2 8 w) / 2 ^ 4)) &&& (msk 15 8))) from (wb_and (by omega) (by decide))]
  rw [show (lN (((t2 8 w) + ((t2 8 w) / 2 ^ 4)) &&& (msk 15 8))) = (lN (t3 8 w)) from (congrArg lN t3_eq)]
  refine lv_lstore_n (lv' := [(0, .long (lN (t3 8 w)))]) hx hb dJ13_bitCount_95d88_33 rfl hl (by decide) rfl (fun ls hl => ?_)
  refine lv_lload_n hx hb dJ13_bitCount_95d88_34 rfl (lv_at hl 0 rfl) ?_
  refine lv_lload_n hx hb dJ13_bitCount_95d88_35 rfl (lv_at hl 0 rfl) ?_
  refine lv_bipush (v := nI 8) hx hb dJ13_bitCount_95d88_36 (by decide) ?_
  refine n_lushr hx hb (by omega) (by omega) dJ13_bitCount_95d88_38 ?_
  refine n_ladd hx hb dJ13_bitCount_95d88_39 ?_
  refine lv_lstore_n (lv' := [(0, .long (lN ((t3 8 w) + ((t3 8 w) / 2 ^ 8))))]) hx hb dJ13_bitCount_95d88_40 rfl hl (by decide) rfl (fun ls hl => ?_)
  refine lv_lload_n hx hb dJ13_bitCount_95d88_41 rfl (lv_at hl 0 rfl) ?_
  refine lv_lload_n hx hb dJ13_bitCount_95d88_42 rfl (lv_at hl 0 rfl) ?_
  refine lv_bipush (v := nI 16) hx hb dJ13_bitCount_95d88_43 (by decide) ?_
  refine n_lushr hx hb (by omega) (by omega) dJ13_bitCount_95d88_45 ?_
  refine n_ladd hx hb dJ13_bitCount_95d88_46 ?_
  refine lv_lstore_n (lv' := [(0, .long (lN (((t3 8 w) + ((t3 8 w) / 2 ^ 8)) + (((t3 8 w) + ((t3 8 w) / 2 ^ 8)) / 2 ^ 16))))]) hx hb dJ13_bitCount_95d88_47 rfl hl (by decide) rfl (fun ls hl => ?_)
  refine lv_lload_n hx hb dJ13_bitCount_95d88_48 rfl (lv_at hl 0 rfl) ?_
  refine lv_lload_n hx hb dJ13_bitCount_95d88_49 rfl (lv_at hl 0 rfl) ?_
  refine lv_bipush (v := nI 32) hx hb dJ13_bitCount_95d88_50 (by decide) ?_
  refine n_lushr hx hb (by omega) (by omega) dJ13_bitCount_95d88_52 ?_
  refine n_ladd hx hb dJ13_bitCount_95d88_53 ?_
  refine lv_lstore_n (lv' := [(0, .long (lN ((((t3 8 w) + ((t3 8 w) / 2 ^ 8)) + (((t3 8 w) + ((t3 8 w) / 2 ^ 8)) / 2 ^ 16)) + ((((t3 8 w) + ((t3 8 w) / 2 ^ 8)) + (((t3 8 w) + ((t3 8 w) / 2 ^ 8)) / 2 ^ 16)) / 2 ^ 32))))]) hx hb dJ13_bitCount_95d88_54 rfl hl (by decide) rfl (fun ls hl => ?_)
  refine lv_lload_n hx hb dJ13_bitCount_95d88_55 rfl (lv_at hl 0 rfl) ?_
  refine n_l2i hx hb dJ13_bitCount_95d88_56 ?_
  refine lv_bipush (v := nI 127) hx hb dJ13_bitCount_95d88_57 (by decide) ?_
  refine n_iand hx hb 7 (by decide) dJ13_bitCount_95d88_59 ?_
  exact rRetI hx hb hr hlocks (congrArg (fun z => Value.int (nI z)) (pop_end w rfl rfl rfl)) dJ13_bitCount_95d88_60

/-! ===== outcomes as a set of bits ===== -/
def mkO (O : Nat → Nat) (o : Nat) : Nat → Nat := va_up O (o / 2 ^ 6) (sF (O (o / 2 ^ 6)) (o % 2 ^ 6) 1 1)
def bitO (O : Nat → Nat) (o : Nat) : Bool := (O (o / 2 ^ 6)).testBit (o % 2 ^ 6)
theorem mk_bit (O : Nat → Nat) (o c : Nat) : bitO (mkO O c) o = if o = c then true else bitO O o := by
  unfold bitO mkO
  by_cases h : o / 2 ^ 6 = c / 2 ^ 6
  · rw [h, va_up_self, sF_bit (by decide)]
    by_cases h2 : o % 2 ^ 6 = c % 2 ^ 6
    · have e : o = c := by omega
      rw [if_pos e, if_neg (by omega), if_pos (by omega), h2, Nat.sub_self]
      rfl
    · rw [if_neg (show ¬ o = c from fun e => h2 (by rw [e]))]
      by_cases h3 : o % 2 ^ 6 < c % 2 ^ 6
      · rw [if_pos h3]
      · rw [if_neg h3, if_neg (by omega)]
  · rw [va_up_ne _ _ h, if_neg (fun e => h (by rw [e]))]
theorem mk_lt {O : Nat → Nat} (h : ∀ w, O w < 2 ^ 64) (c w : Nat) : mkO O c w < 2 ^ 64 := by
  unfold mkO va_up
  split
  · exact sF_lt (by decide) (h _) (by omega)
  · exact h w
theorem bit_word (O : Nat → Nat) (w : Nat) : fb_ct (bitO O) (64 * (w + 1)) = fb_ct (bitO O) (64 * w) + fb_ct (fun j => (O w).testBit j) 64 := by
  rw [Nat.mul_add, Nat.mul_one, fb_ct_split]
  congr 1
  refine fb_ct_cong (fun k hk => ?_)
  unfold bitO
  rw [show (64 * w + k) / 2 ^ 6 = w by omega, show (64 * w + k) % 2 ^ 6 = k by omega]

set_option maxHeartbeats 4000000 in
set_option maxRecDepth 100000 in
theorem c_X2_markOutcome (l : Launch) (D : va_G) (ca : Nat → ClassId) (xa fo pa mo ta ou : Nat) (cnt n : Nat) (O : Nat → Nat) (o : Nat) (ho : o < 4096) : UP l D ca yX2_markOutcome wsX2_markOutcome 0 0 0 0 [(xa, .inr (0, [.ref fo, .ref pa, .ref mo, .ref ta, .ref ou, .int (nI cnt), .int (nI n)])), (ou, .inl (ca 1, 64, .inr (.inl (lwN O))))] [.ref xa, .int (nI o)] (one none [(xa, .inr (0, [.ref fo, .ref pa, .ref mo, .ref ta, .ref ou, .int (nI cnt), .int (nI n)])), (ou, .inl (ca 1, 64, .inr (.inl (lwN (mkO O o)))))]) := by
  refine UP.start (cc := cX2_markOutcome) (maxL := 3) (ret := none) (by decide) rfl (Nat.le_of_ble_eq_true rfl) ?_
  intro p_ e_ s_ m_ below_ meth_ c_ A hx hb hml hr hlocks hin hown hts hK hA hP hD hS ls hl
  have hown : s_.vm.findClass RX2 = some m_.cls := hown
  have hl : lv_has ls 3 [(0, .ref xa), (1, .int (nI o))] := hl
  have hinX20 : ∀ w ∈ wsX20, w ∈ wsX2_markOutcome := fun w h => List.mem_cons_of_mem _ (List.mem_append_right _ h)
  refine lv_iload_n hx hb dX2_markOutcome_0 rfl (lv_at hl 1 rfl) ?_
  refine lv_bipush (v := nI 6) hx hb dX2_markOutcome_1 (by decide) ?_
  refine n_ishr hx hb (by omega) (by omega) dX2_markOutcome_3 ?_
  refine lv_istore_n (lv' := [(2, .int (nI (o / 2 ^ 6))), (0, .ref xa), (1, .int (nI o))]) hx hb dX2_markOutcome_4 rfl hl (by decide) rfl (fun ls hl => ?_)
  refine lv_iload_n hx hb dX2_markOutcome_5 rfl (lv_at hl 0 rfl) ?_
  refine n_if_lt (tgt := 33) hx hb dX2_markOutcome_6 (by decide) (by omega) ?_
  refine lv_iload_n hx hb dX2_markOutcome_9 rfl (lv_at hl 0 rfl) ?_
  refine lv_aload_n hx hb dX2_markOutcome_10 rfl (lv_at hl 1 rfl) ?_
  refine va_get (D := D) (ci := 0) (v := .ref ou) (C := RX2) (T := TX2) (N := 7) hx hb hts hinX20 hown hK.1 hP 0 rfl rfl 4 (by decide) (hts (.fieldLink RX2 25 "RenamingGrid$Exploration" "outcomes" "[J") (List.mem_of_getElem? (i := 1) rfl)) (fun _ h9 => h9) rfl dX2_markOutcome_11 ?_
  refine va_alen (D := D) (v := nI 64) hx hb hK.1 hP 1 1 rfl rfl rfl dX2_markOutcome_14 ?_
  refine n_ic_ge (tgt := 33) hx hb dX2_markOutcome_15 (by decide) (by omega) (by decide) (fun c15 => absurd c15 (by omega)) (fun c15 => ?_)
  refine lv_aload_n hx hb dX2_markOutcome_18 rfl (lv_at hl 1 rfl) ?_
  refine va_get (D := D) (ci := 0) (v := .ref ou) (C := RX2) (T := TX2) (N := 7) hx hb hts hinX20 hown hK.1 hP 0 rfl rfl 4 (by decide) (hts (.fieldLink RX2 25 "RenamingGrid$Exploration" "outcomes" "[J") (List.mem_of_getElem? (i := 1) rfl)) (fun _ h9 => h9) rfl dX2_markOutcome_19 ?_
  refine lv_iload_n hx hb dX2_markOutcome_22 rfl (lv_at hl 0 rfl) ?_
  refine lv_dup2_11 hx hb dX2_markOutcome_23 rfl rfl ?_
  refine n_lald (D := D) (ca := ca) (v := (lN (O (o / 2 ^ 6)))) hx hb hK.1 hP 1 (f := (lwN O)) rfl (by omega) (by decide) rfl dX2_markOutcome_24 ?_
  refine lv_lconst (v := lN 1) hx hb dX2_markOutcome_25 (by decide) ?_
  refine lv_iload_n hx hb dX2_markOutcome_26 rfl (lv_at hl 2 rfl) ?_
  refine lv_bipush (v := nI 63) hx hb dX2_markOutcome_27 (by decide) ?_
  refine n_iand hx hb 6 (by decide) dX2_markOutcome_29 ?_
  refine n_lshl hx hb (by omega) dX2_markOutcome_30 ?_
  refine lv_lor hx hb dX2_markOutcome_31 ?_
  rw [show (((lN (O (o / 2 ^ 6))) ||| (lN (1 * 2 ^ (o % 2 ^ 6))))) = (lN (sF (O (o / 2 ^ 6)) (o % 2 ^ 6) 1 1)) from (by rw [Nat.one_mul]; exact orL (by omega))]
  refine n_last (D := D) (ca := ca) hx hb hK.1 hP hD hS 1 (f := (lwN O)) rfl (by omega) (by decide) dX2_markOutcome_32 (fun H locs hP hD hS => ?_)
  have hP : va_P D vwCl [(xa, .inr (0, [.ref fo, .ref pa, .ref mo, .ref ta, .ref ou, .int (nI cnt), .int (nI n)])), (ou, .inl (ca 1, 64, .inr (.inl (vp_updL (lwN O) (o / 2 ^ 6) (lN (sF (O (o / 2 ^ 6)) (o % 2 ^ 6) 1 1))))))] H := hP
  have hD : va_D A [(xa, .inr (0, [.ref fo, .ref pa, .ref mo, .ref ta, .ref ou, .int (nI cnt), .int (nI n)])), (ou, .inl (ca 1, 64, .inr (.inl (vp_updL (lwN O) (o / 2 ^ 6) (lN (sF (O (o / 2 ^ 6)) (o % 2 ^ 6) 1 1))))))] := hD
  rw [lwN_up] at hP hD
  exact uRetV hx hb hr hlocks hK hP hD hS ⟨rfl, rfl⟩ (Nat.le_of_ble_eq_true rfl) (Nat.le_of_ble_eq_true rfl) dX2_markOutcome_33

set_option maxHeartbeats 4000000 in
set_option maxRecDepth 100000 in
theorem c_X2_countOutcomes (l : Launch) (D : va_G) (ca : Nat → ClassId) (xa fo pa mo ta ou : Nat) (n : Nat) (B : BL) (f : Nat → Int64) (hR : ∀ i, i < B.length → f i = lN (bC B i)) (hV : ∀ i, i < B.length → bC B i < 2 ^ 54) (hB : B.length ≤ 4000) (hn : n ≤ 3) (hn1 : 1 ≤ n) (o0 : Nat → Int64) (hN : ∀ i, i < B.length → ∀ p, p < 3 → nmZ (bC B i) p ≤ 10) : UP l D ca yX2_countOutcomes wsX2_countOutcomes 3 69 0 0 [(xa, .inr (0, [.ref fo, .ref pa, .ref mo, .ref ta, .ref ou, .int (nI B.length), .int (nI n)])), (fo, .inl (ca 1, 4000, .inr (.inl f))), (ou, .inl (ca 1, 64, .inr (.inl o0)))] [.ref xa] (fun v W1 => v = some (.int (nI (dsB B n B.length))) ∧ ∃ o2 : Nat → Int64, W1 = [(xa, .inr (0, [.ref fo, .ref pa, .ref mo, .ref ta, .ref ou, .int (nI B.length), .int (nI n)])), (fo, .inl (ca 1, 4000, .inr (.inl f))), (ou, .inl (ca 1, 64, .inr (.inl o2)))]) := by
  refine UP.start (cc := cX2_countOutcomes) (maxL := 3) (ret := (some .int)) (by decide) rfl (Nat.le_of_ble_eq_true rfl) ?_
  intro p_ e_ s_ m_ below_ meth_ c_ A hx hb hml hr hlocks hin hown hts hK hA hP hD hS ls hl
  have hown : s_.vm.findClass RX2 = some m_.cls := hown
  have hl : lv_has ls 3 [(0, .ref xa)] := hl
  have hinX20 : ∀ w ∈ wsX20, w ∈ wsX2_countOutcomes := fun w h => List.mem_cons_of_mem _ (List.mem_append_right _ h)
  refine lv_aload_n hx hb dX2_countOutcomes_0 rfl (lv_at hl 0 rfl) ?_
  refine va_get (D := D) (ci := 0) (v := .ref ou) (C := RX2) (T := TX2) (N := 7) hx hb hts hinX20 hown hK.1 hP 0 rfl rfl 4 (by decide) (hts (.fieldLink RX2 25 "RenamingGrid$Exploration" "outcomes" "[J") (List.mem_of_getElem? (i := 1) rfl)) (fun _ h9 => h9) rfl dX2_countOutcomes_1 ?_
  refine lv_lconst (v := lN 0) hx hb dX2_countOutcomes_4 (by decide) ?_
  refine uS (nL := 3) (wr := [(xa, .inr (0, [.ref fo, .ref pa, .ref mo, .ref ta, .ref ou, .int (nI B.length), .int (nI n)])), (fo, .inl (ca 1, 4000, .inr (.inl f)))]) hx hb hml hown hts hK hA hP hD hS [.ref ou, .long (lN 0)] [] (c_J7_fill_d0a16 l D ca ou 64 (lN 0) o0 (by decide)) gX2_countOutcomes_J7_fill_d0a16 rfl qJ7_fill_d0a16 ⟨Nat.le_of_ble_eq_true rfl, Nat.le_of_ble_eq_true rfl⟩ [2] [0, 1] rfl rfl (by decide) (by decide) rfl hl.1 (Nat.le_of_ble_eq_true rfl) ⟨Nat.le_of_ble_eq_true rfl, Nat.le_of_ble_eq_true rfl⟩ dX2_countOutcomes_5 (oneK (wsN := [(xa, .inr (0, [.ref fo, .ref pa, .ref mo, .ref ta, .ref ou, .int (nI B.length), .int (nI n)])), (fo, .inl (ca 1, 4000, .inr (.inl f))), (ou, .inl (ca 1, 64, .inr (.inl (lwN (fun _ => 0)))))]) [0, 1, 2] (by decide) rfl (st1 := []) rfl 0 0 rfl rfl (fun H locs hP hD hS => ?_))
  refine lv_iconst (v := nI 0) hx hb dX2_countOutcomes_8 (by decide) ?_
  refine lv_istore_n (lv' := [(1, .int (nI 0)), (0, .ref xa)]) hx hb dX2_countOutcomes_9 rfl hl (by decide) rfl (fun ls hl => ?_)
  have loop10 : ∀ (N_ : Nat) (i : Nat) (O : Nat → Nat) (hi : i ≤ B.length) (hO : ∀ o, o < 4096 → bitO O o = anyO B n i o) (hOb : ∀ w, O w < 2 ^ 64) (hf : B.length < i + N_), ∀ (H : Heap) (locs : List Loc), va_P D vwCl [(xa, .inr (0, [.ref fo, .ref pa, .ref mo, .ref ta, .ref ou, .int (nI B.length), .int (nI n)])), (fo, .inl (ca 1, 4000, .inr (.inl f))), (ou, .inl (ca 1, 64, .inr (.inl (lwN O))))] H → va_D A [(xa, .inr (0, [.ref fo, .ref pa, .ref mo, .ref ta, .ref ou, .int (nI B.length), .int (nI n)])), (fo, .inl (ca 1, 4000, .inr (.inl f))), (ou, .inl (ca 1, 64, .inr (.inl (lwN O))))] → va_S A s_.heap H locs → ∀ (ls : Array Slot), lv_has ls 3 [(1, .int (nI i)), (0, .ref xa)] → W p_ l e_ ({ frames := 3, cells := 0, slots := 0, locals := 69 }) s_ m_ ([.ref xa]).toArray below_ meth_ c_ H locs 0 0 (MQ below_ (uQA D ca A (fun v W1 => v = some (.int (nI (dsB B n B.length))) ∧ ∃ o2 : Nat → Int64, W1 = [(xa, .inr (0, [.ref fo, .ref pa, .ref mo, .ref ta, .ref ou, .int (nI B.length), .int (nI n)])), (fo, .inl (ca 1, 4000, .inr (.inl f))), (ou, .inl (ca 1, 64, .inr (.inl o2)))])) ([.ref xa]).toArray s_ 0 0 A) (F0 m_ 10 ls []) := by
    intro N_
    induction N_ with
    | zero => intro i O hi hO hOb hf; exfalso; omega
    | succ N_ ih10 =>
      intro i O hi hO hOb hf H locs hP hD hS ls hl
      refine lv_iload_n hx hb dX2_countOutcomes_10 rfl (lv_at hl 0 rfl) ?_
      refine lv_aload_n hx hb dX2_countOutcomes_11 rfl (lv_at hl 1 rfl) ?_
      refine va_get (D := D) (ci := 0) (v := .int (nI B.length)) (C := RX2) (T := TX2) (N := 7) hx hb hts hinX20 hown hK.1 hP 0 rfl rfl 5 (by decide) (hts (.fieldLink RX2 34 "RenamingGrid$Exploration" "count" "I") (List.mem_of_getElem? (i := 2) rfl)) (fun _ h9 => h9) rfl dX2_countOutcomes_12 ?_
      refine n_ic_ge (tgt := 49) hx hb dX2_countOutcomes_15 (by decide) (by omega) (by omega) (fun c15 => ?_) (fun c15 => ?_)
      · have hie : i = B.length := by omega
        refine lv_iconst (v := nI 0) hx hb dX2_countOutcomes_49 (by decide) ?_
        refine lv_istore_n (lv' := [(1, .int (nI 0)), (0, .ref xa)]) hx hb dX2_countOutcomes_50 rfl hl (by decide) rfl (fun ls hl => ?_)
        refine lv_iconst (v := nI 0) hx hb dX2_countOutcomes_51 (by decide) ?_
        refine lv_istore_n (lv' := [(2, .int (nI 0)), (1, .int (nI 0)), (0, .ref xa)]) hx hb dX2_countOutcomes_52 rfl hl (by decide) rfl (fun ls hl => ?_)
        have loop53 : ∀ (N_ : Nat) (i : Nat) (r : Nat) (hi2 : i ≤ 64) (hr2 : r = fb_ct (bitO O) (64 * i)) (hf : 64 < i + N_), ∀ (H : Heap) (locs : List Loc), va_P D vwCl [(xa, .inr (0, [.ref fo, .ref pa, .ref mo, .ref ta, .ref ou, .int (nI B.length), .int (nI n)])), (fo, .inl (ca 1, 4000, .inr (.inl f))), (ou, .inl (ca 1, 64, .inr (.inl (lwN O))))] H → va_D A [(xa, .inr (0, [.ref fo, .ref pa, .ref mo, .ref ta, .ref ou, .int (nI B.length), .int (nI n)])), (fo, .inl (ca 1, 4000, .inr (.inl f))), (ou, .inl (ca 1, 64, .inr (.inl (lwN O))))] → va_S A s_.heap H locs → ∀ (ls : Array Slot), lv_has ls 3 [(2, .int (nI i)), (1, .int (nI r)), (0, .ref xa)] → W p_ l e_ ({ frames := 3, cells := 0, slots := 0, locals := 69 }) s_ m_ ([.ref xa]).toArray below_ meth_ c_ H locs 0 0 (MQ below_ (uQA D ca A (fun v W1 => v = some (.int (nI (dsB B n B.length))) ∧ ∃ o2 : Nat → Int64, W1 = [(xa, .inr (0, [.ref fo, .ref pa, .ref mo, .ref ta, .ref ou, .int (nI B.length), .int (nI n)])), (fo, .inl (ca 1, 4000, .inr (.inl f))), (ou, .inl (ca 1, 64, .inr (.inl o2)))])) ([.ref xa]).toArray s_ 0 0 A) (F0 m_ 53 ls []) := by
          intro N_
          induction N_ with
          | zero => intro i r hi2 hr2 hf; exfalso; omega
          | succ N_ ih53 =>
            intro i r hi2 hr2 hf H locs hP hD hS ls hl
            refine lv_iload_n hx hb dX2_countOutcomes_53 rfl (lv_at hl 0 rfl) ?_
            refine lv_aload_n hx hb dX2_countOutcomes_54 rfl (lv_at hl 2 rfl) ?_
            refine va_get (D := D) (ci := 0) (v := .ref ou) (C := RX2) (T := TX2) (N := 7) hx hb hts hinX20 hown hK.1 hP 0 rfl rfl 4 (by decide) (hts (.fieldLink RX2 25 "RenamingGrid$Exploration" "outcomes" "[J") (List.mem_of_getElem? (i := 1) rfl)) (fun _ h9 => h9) rfl dX2_countOutcomes_55 ?_
            refine va_alen (D := D) (v := nI 64) hx hb hK.1 hP 2 1 rfl rfl rfl dX2_countOutcomes_58 ?_
            refine n_ic_ge (tgt := 80) hx hb dX2_countOutcomes_59 (by decide) (by omega) (by decide) (fun c59 => ?_) (fun c59 => ?_)
            · refine lv_iload_n hx hb dX2_countOutcomes_80 rfl (lv_at hl 1 rfl) ?_
              have hlt : ∀ j, j < B.length → ocP (bC B j) n < 4096 := fun j hj => Nat.lt_of_lt_of_le (ocP_lt (hN j hj) hn) (Nat.pow_le_pow_right (by decide) hn)
              exact uRetI hx hb hr hlocks hK hP hD hS ⟨by rw [hr2, show i = 64 by omega, ← ds_eq hlt, fb_ct_cong (fun o ho => hO o ho), hie], _, rfl⟩ (Nat.le_of_ble_eq_true rfl) (Nat.le_of_ble_eq_true rfl) dX2_countOutcomes_81
            · refine lv_iload_n hx hb dX2_countOutcomes_62 rfl (lv_at hl 1 rfl) ?_
              refine lv_aload_n hx hb dX2_countOutcomes_63 rfl (lv_at hl 2 rfl) ?_
              refine va_get (D := D) (ci := 0) (v := .ref ou) (C := RX2) (T := TX2) (N := 7) hx hb hts hinX20 hown hK.1 hP 0 rfl rfl 4 (by decide) (hts (.fieldLink RX2 25 "RenamingGrid$Exploration" "outcomes" "[J") (List.mem_of_getElem? (i := 1) rfl)) (fun _ h9 => h9) rfl dX2_countOutcomes_64 ?_
              refine lv_iload_n hx hb dX2_countOutcomes_67 rfl (lv_at hl 0 rfl) ?_
              refine n_lald (D := D) (ca := ca) (v := (lN (O i))) hx hb hK.1 hP 2 (f := (lwN O)) rfl (by omega) (by decide) rfl dX2_countOutcomes_68 ?_
              refine rdS (nL := 3) hx hb hml hown hts hK hP [.long (lN (O i))] [.int (nI r)] (c_J13_bitCount_95d88 l D ca (O i) (hOb _)) gX2_countOutcomes_J13_bitCount_95d88 rfl qJ13_bitCount_95d88 ⟨Nat.le_of_ble_eq_true rfl, Nat.le_of_ble_eq_true rfl⟩ [] rfl rfl hl.1 (Nat.le_of_ble_eq_true rfl) ⟨Nat.le_of_ble_eq_true rfl, Nat.le_of_ble_eq_true rfl⟩ dX2_countOutcomes_69 ?_
              refine n_iadd hx hb dX2_countOutcomes_72 ?_
              refine lv_istore_n (lv' := [(1, .int (nI (r + (fb_ct (fun j => (O i).testBit j) 64)))), (2, .int (nI i)), (0, .ref xa)]) hx hb dX2_countOutcomes_73 rfl hl (by decide) rfl (fun ls hl => ?_)
              refine lv_iinc (v := (nI (i + 1))) (lv' := [(2, .int (nI (i + 1))), (1, .int (nI (r + (fb_ct (fun j => (O i).testBit j) 64)))), (0, .ref xa)]) hx hb dX2_countOutcomes_74 hl (k := 1) rfl (show nI i + Int32.ofInt 1 = nI (i + 1) from nI_add _ 1) (by decide) rfl (fun ls hl => ?_)
              refine lv_goto (tgt := 53) hx hb dX2_countOutcomes_77 (by decide) ?_
              exact ih53 (i + 1) ((r + fb_ct (fun j => (O i).testBit j) 64)) (by omega) (by rw [hr2, bit_word]) (by omega) H locs hP hD hS ls (lv_sub hl [0, 1, 2] rfl)
        exact loop53 65 0 0 (by omega) rfl (by omega) _ _ hP hD hS ls (lv_sub hl [0, 1, 2] rfl)
      · refine lv_aload_n hx hb dX2_countOutcomes_18 rfl (lv_at hl 1 rfl) ?_
        refine lv_aload_n hx hb dX2_countOutcomes_19 rfl (lv_at hl 1 rfl) ?_
        refine lv_iload_n hx hb dX2_countOutcomes_20 rfl (lv_at hl 0 rfl) ?_
        refine rdV (nL := 3) (ci := 0) (q0 := 0) (cq := (RX2, TX2, 7)) hx hb hml hown hts hK hP [.int (nI i)] [.ref xa] (c_X2_foundAt l D ca xa fo pa mo ta ou B.length n f i (by omega)) gX2_countOutcomes_X2_foundAt rfl ⟨rfl, qX2_foundAt⟩ ⟨Nat.le_of_ble_eq_true rfl, Nat.le_of_ble_eq_true rfl⟩ rfl rfl [0, 1] rfl rfl hl.1 (Nat.le_of_ble_eq_true rfl) ⟨Nat.le_of_ble_eq_true rfl, Nat.le_of_ble_eq_true rfl⟩ dX2_countOutcomes_21 ?_
        rw [show ((f i)) = (lN (bC B i)) from (hR i (by omega))]
        refine rdV (nL := 3) (ci := 0) (q0 := 0) (cq := (RX2, TX2, 7)) hx hb hml hown hts hK hP [.long (lN (bC B i))] [] (c_X2_isFinal l D ca xa fo pa mo ta ou B.length n (bC B i) (hV i (by omega)) hn) gX2_countOutcomes_X2_isFinal rfl ⟨rfl, qX2_isFinal⟩ ⟨Nat.le_of_ble_eq_true rfl, Nat.le_of_ble_eq_true rfl⟩ rfl rfl [0] rfl rfl hl.1 (Nat.le_of_ble_eq_true rfl) ⟨Nat.le_of_ble_eq_true rfl, Nat.le_of_ble_eq_true rfl⟩ dX2_countOutcomes_24 ?_
        refine n_if_eq (tgt := 43) hx hb dX2_countOutcomes_27 (by decide) (bN_b _) (fun c27 => ?_) (fun c27 => ?_)
        · rw [bN_0] at c27
          refine lv_iinc (v := (nI (i + 1))) (lv' := [(1, .int (nI (i + 1))), (0, .ref xa)]) hx hb dX2_countOutcomes_43 hl (k := 0) rfl (show nI i + Int32.ofInt 1 = nI (i + 1) from nI_add _ 1) (by decide) rfl (fun ls hl => ?_)
          refine lv_goto (tgt := 10) hx hb dX2_countOutcomes_46 (by decide) ?_
          exact ih10 (i + 1) O (by omega) (fun o ho => by rw [hO o ho, anyO_same (fun q => c27 q.1)]) hOb (by omega) H locs hP hD hS ls (lv_sub hl [0, 1] rfl)
        · rw [bN_1] at c27
          refine lv_aload_n hx hb dX2_countOutcomes_30 rfl (lv_at hl 1 rfl) ?_
          refine lv_aload_n hx hb dX2_countOutcomes_31 rfl (lv_at hl 1 rfl) ?_
          refine lv_aload_n hx hb dX2_countOutcomes_32 rfl (lv_at hl 1 rfl) ?_
          refine lv_iload_n hx hb dX2_countOutcomes_33 rfl (lv_at hl 0 rfl) ?_
          refine rdV (nL := 3) (ci := 0) (q0 := 0) (cq := (RX2, TX2, 7)) hx hb hml hown hts hK hP [.int (nI i)] [.ref xa, .ref xa] (c_X2_foundAt l D ca xa fo pa mo ta ou B.length n f i (by omega)) gX2_countOutcomes_X2_foundAt rfl ⟨rfl, qX2_foundAt⟩ ⟨Nat.le_of_ble_eq_true rfl, Nat.le_of_ble_eq_true rfl⟩ rfl rfl [0, 1] rfl rfl hl.1 (Nat.le_of_ble_eq_true rfl) ⟨Nat.le_of_ble_eq_true rfl, Nat.le_of_ble_eq_true rfl⟩ dX2_countOutcomes_34 ?_
          rw [show ((f i)) = (lN (bC B i)) from (hR i (by omega))]
          refine rdV (nL := 3) (ci := 0) (q0 := 0) (cq := (RX2, TX2, 7)) hx hb hml hown hts hK hP [.long (lN (bC B i))] [.ref xa] (c_X2_outcomeOf l D ca xa fo pa mo ta ou B.length n (bC B i) (hV i (by omega)) hn) gX2_countOutcomes_X2_outcomeOf rfl ⟨rfl, qX2_outcomeOf⟩ ⟨Nat.le_of_ble_eq_true rfl, Nat.le_of_ble_eq_true rfl⟩ rfl rfl [0] rfl rfl hl.1 (Nat.le_of_ble_eq_true rfl) ⟨Nat.le_of_ble_eq_true rfl, Nat.le_of_ble_eq_true rfl⟩ dX2_countOutcomes_37 ?_
          refine uV (nL := 3) (wr := [(fo, .inl (ca 1, 4000, .inr (.inl f)))]) (ci := 0) (q0 := 0) (cq := (RX2, TX2, 7)) hx hb hml hown hts hK hA hP hD hS [.int (nI (ocP (bC B i) n))] [] (c_X2_markOutcome l D ca xa fo pa mo ta ou B.length n O (ocP (bC B i) n) (Nat.lt_of_lt_of_le (ocP_lt (hN i (by omega)) hn) (Nat.pow_le_pow_right (by decide) hn))) gX2_countOutcomes_X2_markOutcome rfl ⟨rfl, qX2_markOutcome⟩ ⟨Nat.le_of_ble_eq_true rfl, Nat.le_of_ble_eq_true rfl⟩ rfl rfl [0, 2] [1] rfl rfl (by decide) (by decide) rfl hl.1 (Nat.le_of_ble_eq_true rfl) ⟨Nat.le_of_ble_eq_true rfl, Nat.le_of_ble_eq_true rfl⟩ dX2_countOutcomes_40 (oneK (wsN := [(xa, .inr (0, [.ref fo, .ref pa, .ref mo, .ref ta, .ref ou, .int (nI B.length), .int (nI n)])), (fo, .inl (ca 1, 4000, .inr (.inl f))), (ou, .inl (ca 1, 64, .inr (.inl (lwN (mkO O (ocP (bC B i) n))))))]) [1, 0, 2] (by decide) rfl (st1 := []) rfl 0 0 rfl rfl (fun H locs hP hD hS => ?_))
          refine lv_iinc (v := (nI (i + 1))) (lv' := [(1, .int (nI (i + 1))), (0, .ref xa)]) hx hb dX2_countOutcomes_43 hl (k := 0) rfl (show nI i + Int32.ofInt 1 = nI (i + 1) from nI_add _ 1) (by decide) rfl (fun ls hl => ?_)
          refine lv_goto (tgt := 10) hx hb dX2_countOutcomes_46 (by decide) ?_
          exact ih10 (i + 1) ((mkO O (ocP (bC B i) n))) (by omega) (fun o ho => by rw [mk_bit]; by_cases z : o = ocP (bC B i) n; (rw [if_pos z, anyO_hit c27 z.symm]); (rw [if_neg z, hO o ho, anyO_same (fun q => z q.2.symm)])) (mk_lt hOb _) (by omega) H locs hP hD hS ls (lv_sub hl [0, 1] rfl)
  exact loop10 (B.length + 1) 0 ((fun _ => 0)) (by omega) (fun o _ => by rw [anyO_0]; exact Nat.zero_testBit _) (fun _ => (by decide : (0 : Nat) < 2 ^ 64)) (by omega) _ _ hP hD hS ls (lv_sub hl [0, 1] rfl)

