/-! ===== the model: the search ===== -/
set_option maxHeartbeats 4000000 in
set_option maxRecDepth 100000 in
theorem c_X6_found_r (l : Launch) (D : va_G) (ca : Nat → ClassId) (m : Nat) (r : Nat → Nat) (g : Nat → Int32) (k x : Nat) (hg8 : g 8 = nI (regs x)) (hg9 : g 9 = nI (qn x)) (hx0 : VC k x) (B : BL) (fR fQ fD fP fB : Nat → Int32) (t : Nat → Nat) (hR : RM B fR fQ fD fP fB) (hH : HT hM (bC B) B.length t) (hB : B.length ≤ 4001) (hV : VB k B) (hW : WFB B) (hB0 : B.length = 0) : UP l D ca yX6_found wsX6_found 0 0 0 0 [(m, .inr (4, mF r (upd g 22 (nI B.length)))), (r 17, .inl (ca 0, 4001, .inl fR)), (r 18, .inl (ca 0, 4001, .inl fQ)), (r 19, .inl (ca 0, 4001, .inl fD)), (r 20, .inl (ca 0, 4001, .inl fP)), (r 21, .inl (ca 0, 4001, .inl fB)), (r 23, .inl (ca 0, 8192, .inl (rwN t)))] [.ref m, .int ((-9)), .int ((-9))] (fun v W1 => v = none ∧ ∃ (fR fQ fD fP fB : Nat → Int32) (t : Nat → Nat), RM (pushB B x 0 9) fR fQ fD fP fB ∧ HT hM (bC (pushB B x 0 9)) ((pushB B x 0 9)).length t ∧ W1 = [(m, .inr (4, mF r (upd g 22 (nI (((pushB B x 0 9)).length))))), (r 17, .inl (ca 0, 4001, .inl fR)), (r 18, .inl (ca 0, 4001, .inl fQ)), (r 19, .inl (ca 0, 4001, .inl fD)), (r 20, .inl (ca 0, 4001, .inl fP)), (r 21, .inl (ca 0, 4001, .inl fB)), (r 23, .inl (ca 0, 8192, .inl (rwN t)))]) := by
  refine UP.start (cc := cX6_found) (maxL := 4) (ret := none) (by decide) rfl (Nat.le_of_ble_eq_true rfl) ?_
  intro p_ e_ s_ m_ below_ meth_ c_ A hx hb hml hr hlocks hin hown hts hK hA hP hD hS ls hl
  have hown : s_.vm.findClass RX6 = some m_.cls := hown
  have hl : lv_has ls 4 [(0, .ref m), (1, .int ((-9))), (2, .int ((-9)))] := hl
  have hinX60 : ∀ w ∈ wsX60, w ∈ wsX6_found := fun w h => List.mem_cons_of_mem _ (List.mem_append_right _ h)
  refine lv_aload_n hx hb dX6_found_0 rfl (lv_at hl 0 rfl) ?_
  refine va_get (D := D) (ci := 4) (v := .int (nI (regs x))) (C := RX6) (T := TX6) (N := 34) hx hb hts hinX60 hown hK.1 hP 0 rfl rfl 8 (by decide) (hts (.fieldLink RX6 64 "RenamingGridModel" "registers" "I") (List.mem_of_getElem? (i := 1) rfl)) (fun _ h9 => h9) (congrArg (fun z => some (Value.int z)) hg8) dX6_found_1 ?_
  refine lv_bipush (v := nI 31) hx hb dX6_found_4 (by decide) ?_
  refine n_imul hx hb dX6_found_6 ?_
  refine lv_aload_n hx hb dX6_found_7 rfl (lv_at hl 0 rfl) ?_
  refine va_get (D := D) (ci := 4) (v := .int (nI (qn x))) (C := RX6) (T := TX6) (N := 34) hx hb hts hinX60 hown hK.1 hP 0 rfl rfl 9 (by decide) (hts (.fieldLink RX6 61 "RenamingGridModel" "processes" "I") (List.mem_of_getElem? (i := 2) rfl)) (fun _ h9 => h9) (congrArg (fun z => some (Value.int z)) hg9) dX6_found_8 ?_
  refine n_iadd hx hb dX6_found_11 ?_
  refine lv_ldc (v := nI 1540483477) hx hb hown (hts (.constant RX6 187 (1540483477)) (List.mem_of_getElem? (i := 3) rfl)) dX6_found_12 ?_
  refine n_imul hx hb dX6_found_14 ?_
  refine lv_bipush (v := nI 19) hx hb dX6_found_15 (by decide) ?_
  refine lv_iushr (v := ((((nI ((((regs x) * 31) + (qn x)) * 1540483477))).toUInt32 >>> (((nI 19)).toUInt32 &&& Int32.toUInt32 31)).toInt32)) hx hb dX6_found_17 rfl ?_
  rw [show (((((nI ((((regs x) * 31) + (qn x)) * 1540483477))).toUInt32 >>> (((nI 19)).toUInt32 &&& Int32.toUInt32 31)).toInt32)) = (nI (slot (hM x) 0)) from ((ush19 _).trans (congrArg nI (slot_0 (hM_lt x)).symm))]
  refine lv_istore_n (lv' := [(3, .int (nI (slot (hM x) 0))), (0, .ref m), (1, .int ((-9))), (2, .int ((-9)))]) hx hb dX6_found_18 rfl hl (by decide) rfl (fun ls hl => ?_)
  have loop19 : ∀ (N_ : Nat) (d : Nat) (hd : d ≤ 8192) (hp : ∀ e, e < d → t (slot (hM x) e) ≠ 0 ∧ bC B (t (slot (hM x) e) - 1) ≠ x) (hf : 8192 < d + N_), ∀ (H : Heap) (locs : List Loc), va_P D vwCl [(m, .inr (4, mF r (upd g 22 (nI B.length)))), (r 17, .inl (ca 0, 4001, .inl fR)), (r 18, .inl (ca 0, 4001, .inl fQ)), (r 19, .inl (ca 0, 4001, .inl fD)), (r 20, .inl (ca 0, 4001, .inl fP)), (r 21, .inl (ca 0, 4001, .inl fB)), (r 23, .inl (ca 0, 8192, .inl (rwN t)))] H → va_D A [(m, .inr (4, mF r (upd g 22 (nI B.length)))), (r 17, .inl (ca 0, 4001, .inl fR)), (r 18, .inl (ca 0, 4001, .inl fQ)), (r 19, .inl (ca 0, 4001, .inl fD)), (r 20, .inl (ca 0, 4001, .inl fP)), (r 21, .inl (ca 0, 4001, .inl fB)), (r 23, .inl (ca 0, 8192, .inl (rwN t)))] → va_S A s_.heap H locs → ∀ (ls : Array Slot), lv_has ls 4 [(3, .int (nI (slot (hM x) d))), (0, .ref m), (1, .int ((-9))), (2, .int ((-9)))] → W p_ l e_ ({ frames := 0, cells := 0, slots := 0, locals := 0 }) s_ m_ ([.ref m, .int ((-9)), .int ((-9))]).toArray below_ meth_ c_ H locs 0 0 (MQ below_ (uQA D ca A (fun v W1 => v = none ∧ ∃ (fR fQ fD fP fB : Nat → Int32) (t : Nat → Nat), RM (pushB B x 0 9) fR fQ fD fP fB ∧ HT hM (bC (pushB B x 0 9)) ((pushB B x 0 9)).length t ∧ W1 = [(m, .inr (4, mF r (upd g 22 (nI (((pushB B x 0 9)).length))))), (r 17, .inl (ca 0, 4001, .inl fR)), (r 18, .inl (ca 0, 4001, .inl fQ)), (r 19, .inl (ca 0, 4001, .inl fD)), (r 20, .inl (ca 0, 4001, .inl fP)), (r 21, .inl (ca 0, 4001, .inl fB)), (r 23, .inl (ca 0, 8192, .inl (rwN t)))])) ([.ref m, .int ((-9)), .int ((-9))]).toArray s_ 0 0 A) (F0 m_ 19 ls []) := by
    intro N_
    induction N_ with
    | zero => intro d hd hp hf; exfalso; omega
    | succ N_ ih19 =>
      intro d hd hp hf H locs hP hD hS ls hl
      have hd2 : d < 8192 := by rcases Nat.lt_or_ge d 8192 with q | q; exact q; exact (ht_full hH (by omega) (hM_lt x) (fun e he => (hp e (by omega)).1)).elim
      have hts2 : t (slot (hM x) d) ≤ B.length := hH.1 (slot (hM x) d) (slot_lt _ _)
      refine lv_aload_n hx hb dX6_found_19 rfl (lv_at hl 1 rfl) ?_
      refine va_get (D := D) (ci := 4) (v := .ref (r 23)) (C := RX6) (T := TX6) (N := 34) hx hb hts hinX60 hown hK.1 hP 0 rfl rfl 23 (by decide) (hts (.fieldLink RX6 41 "RenamingGridModel" "table" "[I") (List.mem_of_getElem? (i := 4) rfl)) (fun _ h9 => h9) rfl dX6_found_20 ?_
      refine lv_iload_n hx hb dX6_found_23 rfl (lv_at hl 0 rfl) ?_
      refine n_iald (D := D) (ca := ca) (v := (nI (t (slot (hM x) d)))) hx hb hK.1 hP 6 (f := (rwN t)) rfl (slot_lt _ _) (by decide) rfl dX6_found_24 ?_
      refine n_if_eq (tgt := 80) hx hb dX6_found_25 (by decide) (by omega) (fun c25 => ?_) (fun c25 => ?_)
      · refine lv_aload_n hx hb dX6_found_80 rfl (lv_at hl 1 rfl) ?_
        refine va_get (D := D) (ci := 4) (v := .int (nI B.length)) (C := RX6) (T := TX6) (N := 34) hx hb hts hinX60 hown hK.1 hP 0 rfl rfl 22 (by decide) (hts (.fieldLink RX6 188 "RenamingGridModel" "count" "I") (List.mem_of_getElem? (i := 7) rfl)) (fun _ h9 => h9) rfl dX6_found_81 ?_
        refine lv_sipush (v := nI 4000) hx hb dX6_found_84 (by decide) ?_
        refine n_ic_gt (tgt := 185) hx hb dX6_found_87 (by decide) (by omega) (by decide) (fun c87 => ?_) (fun c87 => ?_)
        · have hpush : pushB B x 0 9 = B := push_full (by omega)
          exact uRetV hx hb hr hlocks hK hP hD hS ⟨rfl, fR, fQ, fD, fP, fB, t, by rw [hpush]; exact hR, by rw [hpush]; exact hH, by rw [hpush]⟩ (Nat.le_of_ble_eq_true rfl) (Nat.le_of_ble_eq_true rfl) dX6_found_185
        · refine lv_aload_n hx hb dX6_found_90 rfl (lv_at hl 1 rfl) ?_
          refine va_get (D := D) (ci := 4) (v := .ref (r 17)) (C := RX6) (T := TX6) (N := 34) hx hb hts hinX60 hown hK.1 hP 0 rfl rfl 17 (by decide) (hts (.fieldLink RX6 26 "RenamingGridModel" "registersOf" "[I") (List.mem_of_getElem? (i := 5) rfl)) (fun _ h9 => h9) rfl dX6_found_91 ?_
          refine lv_aload_n hx hb dX6_found_94 rfl (lv_at hl 1 rfl) ?_
          refine va_get (D := D) (ci := 4) (v := .int (nI B.length)) (C := RX6) (T := TX6) (N := 34) hx hb hts hinX60 hown hK.1 hP 0 rfl rfl 22 (by decide) (hts (.fieldLink RX6 188 "RenamingGridModel" "count" "I") (List.mem_of_getElem? (i := 7) rfl)) (fun _ h9 => h9) rfl dX6_found_95 ?_
          refine lv_aload_n hx hb dX6_found_98 rfl (lv_at hl 1 rfl) ?_
          refine va_get (D := D) (ci := 4) (v := .int (nI (regs x))) (C := RX6) (T := TX6) (N := 34) hx hb hts hinX60 hown hK.1 hP 0 rfl rfl 8 (by decide) (hts (.fieldLink RX6 64 "RenamingGridModel" "registers" "I") (List.mem_of_getElem? (i := 1) rfl)) (fun _ h9 => h9) (congrArg (fun z => some (Value.int z)) hg8) dX6_found_99 ?_
          refine n_iast (D := D) (ca := ca) hx hb hK.1 hP hD hS 1 (f := fR) rfl (by omega) (by decide) dX6_found_102 (fun H locs hP hD hS => ?_)
          have hP : va_P D vwCl [(m, .inr (4, mF r (upd g 22 (nI B.length)))), (r 17, .inl (ca 0, 4001, .inl (upd fR B.length (nI (regs x))))), (r 18, .inl (ca 0, 4001, .inl fQ)), (r 19, .inl (ca 0, 4001, .inl fD)), (r 20, .inl (ca 0, 4001, .inl fP)), (r 21, .inl (ca 0, 4001, .inl fB)), (r 23, .inl (ca 0, 8192, .inl (rwN t)))] H := hP
          have hD : va_D A [(m, .inr (4, mF r (upd g 22 (nI B.length)))), (r 17, .inl (ca 0, 4001, .inl (upd fR B.length (nI (regs x))))), (r 18, .inl (ca 0, 4001, .inl fQ)), (r 19, .inl (ca 0, 4001, .inl fD)), (r 20, .inl (ca 0, 4001, .inl fP)), (r 21, .inl (ca 0, 4001, .inl fB)), (r 23, .inl (ca 0, 8192, .inl (rwN t)))] := hD
          refine lv_aload_n hx hb dX6_found_103 rfl (lv_at hl 1 rfl) ?_
          refine va_get (D := D) (ci := 4) (v := .ref (r 18)) (C := RX6) (T := TX6) (N := 34) hx hb hts hinX60 hown hK.1 hP 0 rfl rfl 18 (by decide) (hts (.fieldLink RX6 29 "RenamingGridModel" "processesOf" "[I") (List.mem_of_getElem? (i := 6) rfl)) (fun _ h9 => h9) rfl dX6_found_104 ?_
          refine lv_aload_n hx hb dX6_found_107 rfl (lv_at hl 1 rfl) ?_
          refine va_get (D := D) (ci := 4) (v := .int (nI B.length)) (C := RX6) (T := TX6) (N := 34) hx hb hts hinX60 hown hK.1 hP 0 rfl rfl 22 (by decide) (hts (.fieldLink RX6 188 "RenamingGridModel" "count" "I") (List.mem_of_getElem? (i := 7) rfl)) (fun _ h9 => h9) rfl dX6_found_108 ?_
          refine lv_aload_n hx hb dX6_found_111 rfl (lv_at hl 1 rfl) ?_
          refine va_get (D := D) (ci := 4) (v := .int (nI (qn x))) (C := RX6) (T := TX6) (N := 34) hx hb hts hinX60 hown hK.1 hP 0 rfl rfl 9 (by decide) (hts (.fieldLink RX6 61 "RenamingGridModel" "processes" "I") (List.mem_of_getElem? (i := 2) rfl)) (fun _ h9 => h9) (congrArg (fun z => some (Value.int z)) hg9) dX6_found_112 ?_
          refine n_iast (D := D) (ca := ca) hx hb hK.1 hP hD hS 2 (f := fQ) rfl (by omega) (by decide) dX6_found_115 (fun H locs hP hD hS => ?_)
          have hP : va_P D vwCl [(m, .inr (4, mF r (upd g 22 (nI B.length)))), (r 17, .inl (ca 0, 4001, .inl (upd fR B.length (nI (regs x))))), (r 18, .inl (ca 0, 4001, .inl (upd fQ B.length (nI (qn x))))), (r 19, .inl (ca 0, 4001, .inl fD)), (r 20, .inl (ca 0, 4001, .inl fP)), (r 21, .inl (ca 0, 4001, .inl fB)), (r 23, .inl (ca 0, 8192, .inl (rwN t)))] H := hP
          have hD : va_D A [(m, .inr (4, mF r (upd g 22 (nI B.length)))), (r 17, .inl (ca 0, 4001, .inl (upd fR B.length (nI (regs x))))), (r 18, .inl (ca 0, 4001, .inl (upd fQ B.length (nI (qn x))))), (r 19, .inl (ca 0, 4001, .inl fD)), (r 20, .inl (ca 0, 4001, .inl fP)), (r 21, .inl (ca 0, 4001, .inl fB)), (r 23, .inl (ca 0, 8192, .inl (rwN t)))] := hD
          refine lv_aload_n hx hb dX6_found_116 rfl (lv_at hl 1 rfl) ?_
          refine va_get (D := D) (ci := 4) (v := .ref (r 19)) (C := RX6) (T := TX6) (N := 34) hx hb hts hinX60 hown hK.1 hP 0 rfl rfl 19 (by decide) (hts (.fieldLink RX6 32 "RenamingGridModel" "depthOf" "[I") (List.mem_of_getElem? (i := 8) rfl)) (fun _ h9 => h9) rfl dX6_found_117 ?_
          refine lv_aload_n hx hb dX6_found_120 rfl (lv_at hl 1 rfl) ?_
          refine va_get (D := D) (ci := 4) (v := .int (nI B.length)) (C := RX6) (T := TX6) (N := 34) hx hb hts hinX60 hown hK.1 hP 0 rfl rfl 22 (by decide) (hts (.fieldLink RX6 188 "RenamingGridModel" "count" "I") (List.mem_of_getElem? (i := 7) rfl)) (fun _ h9 => h9) rfl dX6_found_121 ?_
          refine lv_iload_n hx hb dX6_found_124 rfl (lv_at hl 2 rfl) ?_
          refine lv_bipush (v := -9) hx hb dX6_found_125 (by decide) ?_
          refine lv_icmp_ne (tgt := 134) hx hb dX6_found_127 (by decide) (fun c127 => absurd c127 (fun z => z rfl)) (fun c127 => ?_)
          refine lv_iconst (v := nI 0) hx hb dX6_found_130 (by decide) ?_
          refine lv_goto (tgt := 142) hx hb dX6_found_131 (by decide) ?_
          refine n_iast (D := D) (ca := ca) hx hb hK.1 hP hD hS 3 (f := fD) rfl (by omega) (by decide) dX6_found_142 (fun H locs hP hD hS => ?_)
          have hP : va_P D vwCl [(m, .inr (4, mF r (upd g 22 (nI B.length)))), (r 17, .inl (ca 0, 4001, .inl (upd fR B.length (nI (regs x))))), (r 18, .inl (ca 0, 4001, .inl (upd fQ B.length (nI (qn x))))), (r 19, .inl (ca 0, 4001, .inl (upd fD B.length (nI 0)))), (r 20, .inl (ca 0, 4001, .inl fP)), (r 21, .inl (ca 0, 4001, .inl fB)), (r 23, .inl (ca 0, 8192, .inl (rwN t)))] H := hP
          have hD : va_D A [(m, .inr (4, mF r (upd g 22 (nI B.length)))), (r 17, .inl (ca 0, 4001, .inl (upd fR B.length (nI (regs x))))), (r 18, .inl (ca 0, 4001, .inl (upd fQ B.length (nI (qn x))))), (r 19, .inl (ca 0, 4001, .inl (upd fD B.length (nI 0)))), (r 20, .inl (ca 0, 4001, .inl fP)), (r 21, .inl (ca 0, 4001, .inl fB)), (r 23, .inl (ca 0, 8192, .inl (rwN t)))] := hD
          refine lv_aload_n hx hb dX6_found_143 rfl (lv_at hl 1 rfl) ?_
          refine va_get (D := D) (ci := 4) (v := .ref (r 20)) (C := RX6) (T := TX6) (N := 34) hx hb hts hinX60 hown hK.1 hP 0 rfl rfl 20 (by decide) (hts (.fieldLink RX6 35 "RenamingGridModel" "parentOf" "[I") (List.mem_of_getElem? (i := 9) rfl)) (fun _ h9 => h9) rfl dX6_found_144 ?_
          refine lv_aload_n hx hb dX6_found_147 rfl (lv_at hl 1 rfl) ?_
          refine va_get (D := D) (ci := 4) (v := .int (nI B.length)) (C := RX6) (T := TX6) (N := 34) hx hb hts hinX60 hown hK.1 hP 0 rfl rfl 22 (by decide) (hts (.fieldLink RX6 188 "RenamingGridModel" "count" "I") (List.mem_of_getElem? (i := 7) rfl)) (fun _ h9 => h9) rfl dX6_found_148 ?_
          refine lv_iload_n hx hb dX6_found_151 rfl (lv_at hl 2 rfl) ?_
          refine n_iast (D := D) (ca := ca) hx hb hK.1 hP hD hS 4 (f := fP) rfl (by omega) (by decide) dX6_found_152 (fun H locs hP hD hS => ?_)
          have hP : va_P D vwCl [(m, .inr (4, mF r (upd g 22 (nI B.length)))), (r 17, .inl (ca 0, 4001, .inl (upd fR B.length (nI (regs x))))), (r 18, .inl (ca 0, 4001, .inl (upd fQ B.length (nI (qn x))))), (r 19, .inl (ca 0, 4001, .inl (upd fD B.length (nI 0)))), (r 20, .inl (ca 0, 4001, .inl (upd fP B.length ((-9))))), (r 21, .inl (ca 0, 4001, .inl fB)), (r 23, .inl (ca 0, 8192, .inl (rwN t)))] H := hP
          have hD : va_D A [(m, .inr (4, mF r (upd g 22 (nI B.length)))), (r 17, .inl (ca 0, 4001, .inl (upd fR B.length (nI (regs x))))), (r 18, .inl (ca 0, 4001, .inl (upd fQ B.length (nI (qn x))))), (r 19, .inl (ca 0, 4001, .inl (upd fD B.length (nI 0)))), (r 20, .inl (ca 0, 4001, .inl (upd fP B.length ((-9))))), (r 21, .inl (ca 0, 4001, .inl fB)), (r 23, .inl (ca 0, 8192, .inl (rwN t)))] := hD
          refine lv_aload_n hx hb dX6_found_153 rfl (lv_at hl 1 rfl) ?_
          refine va_get (D := D) (ci := 4) (v := .ref (r 21)) (C := RX6) (T := TX6) (N := 34) hx hb hts hinX60 hown hK.1 hP 0 rfl rfl 21 (by decide) (hts (.fieldLink RX6 38 "RenamingGridModel" "byOf" "[I") (List.mem_of_getElem? (i := 10) rfl)) (fun _ h9 => h9) rfl dX6_found_154 ?_
          refine lv_aload_n hx hb dX6_found_157 rfl (lv_at hl 1 rfl) ?_
          refine va_get (D := D) (ci := 4) (v := .int (nI B.length)) (C := RX6) (T := TX6) (N := 34) hx hb hts hinX60 hown hK.1 hP 0 rfl rfl 22 (by decide) (hts (.fieldLink RX6 188 "RenamingGridModel" "count" "I") (List.mem_of_getElem? (i := 7) rfl)) (fun _ h9 => h9) rfl dX6_found_158 ?_
          refine lv_iload_n hx hb dX6_found_161 rfl (lv_at hl 3 rfl) ?_
          refine n_iast (D := D) (ca := ca) hx hb hK.1 hP hD hS 5 (f := fB) rfl (by omega) (by decide) dX6_found_162 (fun H locs hP hD hS => ?_)
          have hP : va_P D vwCl [(m, .inr (4, mF r (upd g 22 (nI B.length)))), (r 17, .inl (ca 0, 4001, .inl (upd fR B.length (nI (regs x))))), (r 18, .inl (ca 0, 4001, .inl (upd fQ B.length (nI (qn x))))), (r 19, .inl (ca 0, 4001, .inl (upd fD B.length (nI 0)))), (r 20, .inl (ca 0, 4001, .inl (upd fP B.length ((-9))))), (r 21, .inl (ca 0, 4001, .inl (upd fB B.length ((-9))))), (r 23, .inl (ca 0, 8192, .inl (rwN t)))] H := hP
          have hD : va_D A [(m, .inr (4, mF r (upd g 22 (nI B.length)))), (r 17, .inl (ca 0, 4001, .inl (upd fR B.length (nI (regs x))))), (r 18, .inl (ca 0, 4001, .inl (upd fQ B.length (nI (qn x))))), (r 19, .inl (ca 0, 4001, .inl (upd fD B.length (nI 0)))), (r 20, .inl (ca 0, 4001, .inl (upd fP B.length ((-9))))), (r 21, .inl (ca 0, 4001, .inl (upd fB B.length ((-9))))), (r 23, .inl (ca 0, 8192, .inl (rwN t)))] := hD
          refine lv_aload_n hx hb dX6_found_163 rfl (lv_at hl 1 rfl) ?_
          refine va_get (D := D) (ci := 4) (v := .ref (r 23)) (C := RX6) (T := TX6) (N := 34) hx hb hts hinX60 hown hK.1 hP 0 rfl rfl 23 (by decide) (hts (.fieldLink RX6 41 "RenamingGridModel" "table" "[I") (List.mem_of_getElem? (i := 4) rfl)) (fun _ h9 => h9) rfl dX6_found_164 ?_
          refine lv_iload_n hx hb dX6_found_167 rfl (lv_at hl 0 rfl) ?_
          refine lv_aload_n hx hb dX6_found_168 rfl (lv_at hl 1 rfl) ?_
          refine va_get (D := D) (ci := 4) (v := .int (nI B.length)) (C := RX6) (T := TX6) (N := 34) hx hb hts hinX60 hown hK.1 hP 0 rfl rfl 22 (by decide) (hts (.fieldLink RX6 188 "RenamingGridModel" "count" "I") (List.mem_of_getElem? (i := 7) rfl)) (fun _ h9 => h9) rfl dX6_found_169 ?_
          refine lv_iconst (v := nI 1) hx hb dX6_found_172 (by decide) ?_
          refine n_iadd hx hb dX6_found_173 ?_
          refine n_iast (D := D) (ca := ca) hx hb hK.1 hP hD hS 6 (f := (rwN t)) rfl (slot_lt _ _) (by decide) dX6_found_174 (fun H locs hP hD hS => ?_)
          have hP : va_P D vwCl [(m, .inr (4, mF r (upd g 22 (nI B.length)))), (r 17, .inl (ca 0, 4001, .inl (upd fR B.length (nI (regs x))))), (r 18, .inl (ca 0, 4001, .inl (upd fQ B.length (nI (qn x))))), (r 19, .inl (ca 0, 4001, .inl (upd fD B.length (nI 0)))), (r 20, .inl (ca 0, 4001, .inl (upd fP B.length ((-9))))), (r 21, .inl (ca 0, 4001, .inl (upd fB B.length ((-9))))), (r 23, .inl (ca 0, 8192, .inl (upd (rwN t) (slot (hM x) d) (nI (B.length + 1)))))] H := hP
          have hD : va_D A [(m, .inr (4, mF r (upd g 22 (nI B.length)))), (r 17, .inl (ca 0, 4001, .inl (upd fR B.length (nI (regs x))))), (r 18, .inl (ca 0, 4001, .inl (upd fQ B.length (nI (qn x))))), (r 19, .inl (ca 0, 4001, .inl (upd fD B.length (nI 0)))), (r 20, .inl (ca 0, 4001, .inl (upd fP B.length ((-9))))), (r 21, .inl (ca 0, 4001, .inl (upd fB B.length ((-9))))), (r 23, .inl (ca 0, 8192, .inl (upd (rwN t) (slot (hM x) d) (nI (B.length + 1)))))] := hD
          rw [rwN_up] at hP hD
          refine lv_aload_n hx hb dX6_found_175 rfl (lv_at hl 1 rfl) ?_
          refine lv_dup hx hb dX6_found_176 rfl ?_
          refine va_get (D := D) (ci := 4) (v := .int (nI B.length)) (C := RX6) (T := TX6) (N := 34) hx hb hts hinX60 hown hK.1 hP 0 rfl rfl 22 (by decide) (hts (.fieldLink RX6 188 "RenamingGridModel" "count" "I") (List.mem_of_getElem? (i := 7) rfl)) (fun _ h9 => h9) rfl dX6_found_177 ?_
          refine lv_iconst (v := nI 1) hx hb dX6_found_180 (by decide) ?_
          refine n_iadd hx hb dX6_found_181 ?_
          refine va_put (D := D) (ci := 4) (v := .int (nI (B.length + 1))) (ty := tyX6 22) (C := RX6) (T := TX6) (N := 34) hx hb hts hinX60 tyX6 tyX6_ok nmX6 hown hK.1 hP hD hS 0 rfl rfl 22 (by decide) (hts (.fieldLink RX6 188 "RenamingGridModel" "count" "I") (List.mem_of_getElem? (i := 7) rfl)) (fun _ h9 => h9) rfl (tyX6_ok 22 (by decide)) rfl rfl (Nat.le_of_ble_eq_true rfl) dX6_found_182 (fun H locs hP hD hS => ?_)
          have hP : va_P D vwCl [(m, .inr (4, mF r (upd g 22 (nI (B.length + 1))))), (r 17, .inl (ca 0, 4001, .inl (upd fR B.length (nI (regs x))))), (r 18, .inl (ca 0, 4001, .inl (upd fQ B.length (nI (qn x))))), (r 19, .inl (ca 0, 4001, .inl (upd fD B.length (nI 0)))), (r 20, .inl (ca 0, 4001, .inl (upd fP B.length ((-9))))), (r 21, .inl (ca 0, 4001, .inl (upd fB B.length ((-9))))), (r 23, .inl (ca 0, 8192, .inl (rwN (va_up t (slot (hM x) d) (B.length + 1)))))] H := hP
          have hD : va_D A [(m, .inr (4, mF r (upd g 22 (nI (B.length + 1))))), (r 17, .inl (ca 0, 4001, .inl (upd fR B.length (nI (regs x))))), (r 18, .inl (ca 0, 4001, .inl (upd fQ B.length (nI (qn x))))), (r 19, .inl (ca 0, 4001, .inl (upd fD B.length (nI 0)))), (r 20, .inl (ca 0, 4001, .inl (upd fP B.length ((-9))))), (r 21, .inl (ca 0, 4001, .inl (upd fB B.length ((-9))))), (r 23, .inl (ca 0, 8192, .inl (rwN (va_up t (slot (hM x) d) (B.length + 1)))))] := hD
          have hno := ht_no hH hp c25
          have hpush : pushB B x 0 9 = B ++ [(x, 0, 9)] := push_f hno (by omega)
          have hlen : (B ++ [(x, 0, 9)]).length = B.length + 1 := len_app _ _
          exact uRetV hx hb hr hlocks hK hP hD hS ⟨rfl, (upd fR B.length (nI (regs x))), (upd fQ B.length (nI (qn x))), (upd fD B.length (nI 0)), (upd fP B.length ((-9))), (upd fB B.length ((-9))), va_up t (slot (hM x) d) (B.length + 1), by rw [hpush]; exact RM_app hR hW (fun z => absurd z (by omega)) (by rw [if_neg (by omega)]) (fun z => absurd z (by omega)) (fun z => absurd z (by omega)), by rw [hpush, hlen]; exact ht_ins hH hd2 (fun e he => (hp e he).1) c25 (fun j hj => bC_app hj) bC_last, by rw [hpush, hlen]⟩ (Nat.le_of_ble_eq_true rfl) (Nat.le_of_ble_eq_true rfl) dX6_found_185
      · refine lv_aload_n hx hb dX6_found_28 rfl (lv_at hl 1 rfl) ?_
        refine va_get (D := D) (ci := 4) (v := .ref (r 17)) (C := RX6) (T := TX6) (N := 34) hx hb hts hinX60 hown hK.1 hP 0 rfl rfl 17 (by decide) (hts (.fieldLink RX6 26 "RenamingGridModel" "registersOf" "[I") (List.mem_of_getElem? (i := 5) rfl)) (fun _ h9 => h9) rfl dX6_found_29 ?_
        refine lv_aload_n hx hb dX6_found_32 rfl (lv_at hl 1 rfl) ?_
        refine va_get (D := D) (ci := 4) (v := .ref (r 23)) (C := RX6) (T := TX6) (N := 34) hx hb hts hinX60 hown hK.1 hP 0 rfl rfl 23 (by decide) (hts (.fieldLink RX6 41 "RenamingGridModel" "table" "[I") (List.mem_of_getElem? (i := 4) rfl)) (fun _ h9 => h9) rfl dX6_found_33 ?_
        refine lv_iload_n hx hb dX6_found_36 rfl (lv_at hl 0 rfl) ?_
        refine n_iald (D := D) (ca := ca) (v := (nI (t (slot (hM x) d)))) hx hb hK.1 hP 6 (f := (rwN t)) rfl (slot_lt _ _) (by decide) rfl dX6_found_37 ?_
        refine lv_iconst (v := nI 1) hx hb dX6_found_38 (by decide) ?_
        refine n_isub hx hb (by omega) dX6_found_39 ?_
        refine n_iald (D := D) (ca := ca) (v := (nI (regs (bC B (t (slot (hM x) d) - 1))))) hx hb hK.1 hP 1 (f := fR) rfl (by omega) (by decide) (hR (t (slot (hM x) d) - 1) (by omega)).1 dX6_found_40 ?_
        refine lv_aload_n hx hb dX6_found_41 rfl (lv_at hl 1 rfl) ?_
        refine va_get (D := D) (ci := 4) (v := .int (nI (regs x))) (C := RX6) (T := TX6) (N := 34) hx hb hts hinX60 hown hK.1 hP 0 rfl rfl 8 (by decide) (hts (.fieldLink RX6 64 "RenamingGridModel" "registers" "I") (List.mem_of_getElem? (i := 1) rfl)) (fun _ h9 => h9) (congrArg (fun z => some (Value.int z)) hg8) dX6_found_42 ?_
        refine n_ic_ne (tgt := 69) hx hb dX6_found_45 (by decide) (Nat.lt_trans (regs_lt (hV _ (by omega)).1) (by decide)) (Nat.lt_trans (regs_lt hx0.1) (by decide)) (fun c45 => ?_) (fun c45 => ?_)
        · refine lv_iload_n hx hb dX6_found_69 rfl (lv_at hl 0 rfl) ?_
          refine lv_iconst (v := nI 1) hx hb dX6_found_70 (by decide) ?_
          refine n_iadd hx hb dX6_found_71 ?_
          refine lv_sipush (v := nI 8191) hx hb dX6_found_72 (by decide) ?_
          refine n_iand hx hb 13 (by decide) dX6_found_75 ?_
          rw [show (nI (((slot (hM x) d) + 1) % 2 ^ 13)) = (nI (slot (hM x) (d + 1))) from (by rw [slot_s])]
          refine lv_istore_n (lv' := [(3, .int (nI (slot (hM x) (d + 1)))), (0, .ref m), (1, .int ((-9))), (2, .int ((-9)))]) hx hb dX6_found_76 rfl hl (by decide) rfl (fun ls hl => ?_)
          refine lv_goto (tgt := 19) hx hb dX6_found_77 (by decide) ?_
          exact ih19 (d + 1) (by omega) (fun e he => (Nat.lt_or_ge e d).elim (fun q => hp e q) (fun q => (show d = e by omega) ▸ ⟨c25, fun z => c45 (congrArg regs z)⟩)) (by omega) H locs hP hD hS ls (lv_sub hl [0, 1, 2, 3] rfl)
        · refine lv_aload_n hx hb dX6_found_48 rfl (lv_at hl 1 rfl) ?_
          refine va_get (D := D) (ci := 4) (v := .ref (r 18)) (C := RX6) (T := TX6) (N := 34) hx hb hts hinX60 hown hK.1 hP 0 rfl rfl 18 (by decide) (hts (.fieldLink RX6 29 "RenamingGridModel" "processesOf" "[I") (List.mem_of_getElem? (i := 6) rfl)) (fun _ h9 => h9) rfl dX6_found_49 ?_
          refine lv_aload_n hx hb dX6_found_52 rfl (lv_at hl 1 rfl) ?_
          refine va_get (D := D) (ci := 4) (v := .ref (r 23)) (C := RX6) (T := TX6) (N := 34) hx hb hts hinX60 hown hK.1 hP 0 rfl rfl 23 (by decide) (hts (.fieldLink RX6 41 "RenamingGridModel" "table" "[I") (List.mem_of_getElem? (i := 4) rfl)) (fun _ h9 => h9) rfl dX6_found_53 ?_
          refine lv_iload_n hx hb dX6_found_56 rfl (lv_at hl 0 rfl) ?_
          refine n_iald (D := D) (ca := ca) (v := (nI (t (slot (hM x) d)))) hx hb hK.1 hP 6 (f := (rwN t)) rfl (slot_lt _ _) (by decide) rfl dX6_found_57 ?_
          refine lv_iconst (v := nI 1) hx hb dX6_found_58 (by decide) ?_
          refine n_isub hx hb (by omega) dX6_found_59 ?_
          refine n_iald (D := D) (ca := ca) (v := (nI (qn (bC B (t (slot (hM x) d) - 1))))) hx hb hK.1 hP 2 (f := fQ) rfl (by omega) (by decide) (hR (t (slot (hM x) d) - 1) (by omega)).2.1 dX6_found_60 ?_
          refine lv_aload_n hx hb dX6_found_61 rfl (lv_at hl 1 rfl) ?_
          refine va_get (D := D) (ci := 4) (v := .int (nI (qn x))) (C := RX6) (T := TX6) (N := 34) hx hb hts hinX60 hown hK.1 hP 0 rfl rfl 9 (by decide) (hts (.fieldLink RX6 61 "RenamingGridModel" "processes" "I") (List.mem_of_getElem? (i := 2) rfl)) (fun _ h9 => h9) (congrArg (fun z => some (Value.int z)) hg9) dX6_found_62 ?_
          refine n_ic_ne (tgt := 69) hx hb dX6_found_65 (by decide) (Nat.lt_trans (qn_lt _) (by decide)) (Nat.lt_trans (qn_lt _) (by decide)) (fun c65 => ?_) (fun c65 => ?_)
          · refine lv_iload_n hx hb dX6_found_69 rfl (lv_at hl 0 rfl) ?_
            refine lv_iconst (v := nI 1) hx hb dX6_found_70 (by decide) ?_
            refine n_iadd hx hb dX6_found_71 ?_
            refine lv_sipush (v := nI 8191) hx hb dX6_found_72 (by decide) ?_
            refine n_iand hx hb 13 (by decide) dX6_found_75 ?_
            rw [show (nI (((slot (hM x) d) + 1) % 2 ^ 13)) = (nI (slot (hM x) (d + 1))) from (by rw [slot_s])]
            refine lv_istore_n (lv' := [(3, .int (nI (slot (hM x) (d + 1)))), (0, .ref m), (1, .int ((-9))), (2, .int ((-9)))]) hx hb dX6_found_76 rfl hl (by decide) rfl (fun ls hl => ?_)
            refine lv_goto (tgt := 19) hx hb dX6_found_77 (by decide) ?_
            exact ih19 (d + 1) (by omega) (fun e he => (Nat.lt_or_ge e d).elim (fun q => hp e q) (fun q => (show d = e by omega) ▸ ⟨c25, fun z => c65 (congrArg qn z)⟩)) (by omega) H locs hP hD hS ls (lv_sub hl [0, 1, 2, 3] rfl)
          · have hpush : pushB B x 0 9 = B := push_t ⟨t (slot (hM x) d) - 1, by omega, pack_inj (hV _ (by omega)) hx0 c45 c65⟩
            exact uRetV hx hb hr hlocks hK hP hD hS ⟨rfl, fR, fQ, fD, fP, fB, t, by rw [hpush]; exact hR, by rw [hpush]; exact hH, by rw [hpush]⟩ (Nat.le_of_ble_eq_true rfl) (Nat.le_of_ble_eq_true rfl) dX6_found_68
  exact loop19 8193 0 (by omega) (fun e he => absurd he (Nat.not_lt_zero e)) (by omega) _ _ hP hD hS ls (lv_sub hl [0, 1, 2, 3] rfl)

set_option maxHeartbeats 4000000 in
set_option maxRecDepth 100000 in
theorem c_X6_found_n (l : Launch) (D : va_G) (ca : Nat → ClassId) (m : Nat) (r : Nat → Nat) (g : Nat → Int32) (k x : Nat) (hg8 : g 8 = nI (regs x)) (hg9 : g 9 = nI (qn x)) (hx0 : VC k x) (B : BL) (fR fQ fD fP fB : Nat → Int32) (t : Nat → Nat) (hR : RM B fR fQ fD fP fB) (hH : HT hM (bC B) B.length t) (hB : B.length ≤ 4001) (hV : VB k B) (hW : WFB B) (c mv : Nat) (hc : c < B.length) : UP l D ca yX6_found wsX6_found 0 0 0 0 [(m, .inr (4, mF r (upd g 22 (nI B.length)))), (r 17, .inl (ca 0, 4001, .inl fR)), (r 18, .inl (ca 0, 4001, .inl fQ)), (r 19, .inl (ca 0, 4001, .inl fD)), (r 20, .inl (ca 0, 4001, .inl fP)), (r 21, .inl (ca 0, 4001, .inl fB)), (r 23, .inl (ca 0, 8192, .inl (rwN t)))] [.ref m, .int (nI c), .int (nI mv)] (fun v W1 => v = none ∧ ∃ (fR fQ fD fP fB : Nat → Int32) (t : Nat → Nat), RM (pushB B x c mv) fR fQ fD fP fB ∧ HT hM (bC (pushB B x c mv)) ((pushB B x c mv)).length t ∧ W1 = [(m, .inr (4, mF r (upd g 22 (nI (((pushB B x c mv)).length))))), (r 17, .inl (ca 0, 4001, .inl fR)), (r 18, .inl (ca 0, 4001, .inl fQ)), (r 19, .inl (ca 0, 4001, .inl fD)), (r 20, .inl (ca 0, 4001, .inl fP)), (r 21, .inl (ca 0, 4001, .inl fB)), (r 23, .inl (ca 0, 8192, .inl (rwN t)))]) := by
  refine UP.start (cc := cX6_found) (maxL := 4) (ret := none) (by decide) rfl (Nat.le_of_ble_eq_true rfl) ?_
  intro p_ e_ s_ m_ below_ meth_ c_ A hx hb hml hr hlocks hin hown hts hK hA hP hD hS ls hl
  have hown : s_.vm.findClass RX6 = some m_.cls := hown
  have hl : lv_has ls 4 [(0, .ref m), (1, .int (nI c)), (2, .int (nI mv))] := hl
  have hinX60 : ∀ w ∈ wsX60, w ∈ wsX6_found := fun w h => List.mem_cons_of_mem _ (List.mem_append_right _ h)
  refine lv_aload_n hx hb dX6_found_0 rfl (lv_at hl 0 rfl) ?_
  refine va_get (D := D) (ci := 4) (v := .int (nI (regs x))) (C := RX6) (T := TX6) (N := 34) hx hb hts hinX60 hown hK.1 hP 0 rfl rfl 8 (by decide) (hts (.fieldLink RX6 64 "RenamingGridModel" "registers" "I") (List.mem_of_getElem? (i := 1) rfl)) (fun _ h9 => h9) (congrArg (fun z => some (Value.int z)) hg8) dX6_found_1 ?_
  refine lv_bipush (v := nI 31) hx hb dX6_found_4 (by decide) ?_
  refine n_imul hx hb dX6_found_6 ?_
  refine lv_aload_n hx hb dX6_found_7 rfl (lv_at hl 0 rfl) ?_
  refine va_get (D := D) (ci := 4) (v := .int (nI (qn x))) (C := RX6) (T := TX6) (N := 34) hx hb hts hinX60 hown hK.1 hP 0 rfl rfl 9 (by decide) (hts (.fieldLink RX6 61 "RenamingGridModel" "processes" "I") (List.mem_of_getElem? (i := 2) rfl)) (fun _ h9 => h9) (congrArg (fun z => some (Value.int z)) hg9) dX6_found_8 ?_
  refine n_iadd hx hb dX6_found_11 ?_
  refine lv_ldc (v := nI 1540483477) hx hb hown (hts (.constant RX6 187 (1540483477)) (List.mem_of_getElem? (i := 3) rfl)) dX6_found_12 ?_
  refine n_imul hx hb dX6_found_14 ?_
  refine lv_bipush (v := nI 19) hx hb dX6_found_15 (by decide) ?_
  refine lv_iushr (v := ((((nI ((((regs x) * 31) + (qn x)) * 1540483477))).toUInt32 >>> (((nI 19)).toUInt32 &&& Int32.toUInt32 31)).toInt32)) hx hb dX6_found_17 rfl ?_
  rw [show (((((nI ((((regs x) * 31) + (qn x)) * 1540483477))).toUInt32 >>> (((nI 19)).toUInt32 &&& Int32.toUInt32 31)).toInt32)) = (nI (slot (hM x) 0)) from ((ush19 _).trans (congrArg nI (slot_0 (hM_lt x)).symm))]
  refine lv_istore_n (lv' := [(3, .int (nI (slot (hM x) 0))), (0, .ref m), (1, .int (nI c)), (2, .int (nI mv))]) hx hb dX6_found_18 rfl hl (by decide) rfl (fun ls hl => ?_)
  have loop19 : ∀ (N_ : Nat) (d : Nat) (hd : d ≤ 8192) (hp : ∀ e, e < d → t (slot (hM x) e) ≠ 0 ∧ bC B (t (slot (hM x) e) - 1) ≠ x) (hf : 8192 < d + N_), ∀ (H : Heap) (locs : List Loc), va_P D vwCl [(m, .inr (4, mF r (upd g 22 (nI B.length)))), (r 17, .inl (ca 0, 4001, .inl fR)), (r 18, .inl (ca 0, 4001, .inl fQ)), (r 19, .inl (ca 0, 4001, .inl fD)), (r 20, .inl (ca 0, 4001, .inl fP)), (r 21, .inl (ca 0, 4001, .inl fB)), (r 23, .inl (ca 0, 8192, .inl (rwN t)))] H → va_D A [(m, .inr (4, mF r (upd g 22 (nI B.length)))), (r 17, .inl (ca 0, 4001, .inl fR)), (r 18, .inl (ca 0, 4001, .inl fQ)), (r 19, .inl (ca 0, 4001, .inl fD)), (r 20, .inl (ca 0, 4001, .inl fP)), (r 21, .inl (ca 0, 4001, .inl fB)), (r 23, .inl (ca 0, 8192, .inl (rwN t)))] → va_S A s_.heap H locs → ∀ (ls : Array Slot), lv_has ls 4 [(3, .int (nI (slot (hM x) d))), (0, .ref m), (1, .int (nI c)), (2, .int (nI mv))] → W p_ l e_ ({ frames := 0, cells := 0, slots := 0, locals := 0 }) s_ m_ ([.ref m, .int (nI c), .int (nI mv)]).toArray below_ meth_ c_ H locs 0 0 (MQ below_ (uQA D ca A (fun v W1 => v = none ∧ ∃ (fR fQ fD fP fB : Nat → Int32) (t : Nat → Nat), RM (pushB B x c mv) fR fQ fD fP fB ∧ HT hM (bC (pushB B x c mv)) ((pushB B x c mv)).length t ∧ W1 = [(m, .inr (4, mF r (upd g 22 (nI (((pushB B x c mv)).length))))), (r 17, .inl (ca 0, 4001, .inl fR)), (r 18, .inl (ca 0, 4001, .inl fQ)), (r 19, .inl (ca 0, 4001, .inl fD)), (r 20, .inl (ca 0, 4001, .inl fP)), (r 21, .inl (ca 0, 4001, .inl fB)), (r 23, .inl (ca 0, 8192, .inl (rwN t)))])) ([.ref m, .int (nI c), .int (nI mv)]).toArray s_ 0 0 A) (F0 m_ 19 ls []) := by
    intro N_
    induction N_ with
    | zero => intro d hd hp hf; exfalso; omega
    | succ N_ ih19 =>
      intro d hd hp hf H locs hP hD hS ls hl
      have hd2 : d < 8192 := by rcases Nat.lt_or_ge d 8192 with q | q; exact q; exact (ht_full hH (by omega) (hM_lt x) (fun e he => (hp e (by omega)).1)).elim
      have hts2 : t (slot (hM x) d) ≤ B.length := hH.1 (slot (hM x) d) (slot_lt _ _)
      refine lv_aload_n hx hb dX6_found_19 rfl (lv_at hl 1 rfl) ?_
      refine va_get (D := D) (ci := 4) (v := .ref (r 23)) (C := RX6) (T := TX6) (N := 34) hx hb hts hinX60 hown hK.1 hP 0 rfl rfl 23 (by decide) (hts (.fieldLink RX6 41 "RenamingGridModel" "table" "[I") (List.mem_of_getElem? (i := 4) rfl)) (fun _ h9 => h9) rfl dX6_found_20 ?_
      refine lv_iload_n hx hb dX6_found_23 rfl (lv_at hl 0 rfl) ?_
      refine n_iald (D := D) (ca := ca) (v := (nI (t (slot (hM x) d)))) hx hb hK.1 hP 6 (f := (rwN t)) rfl (slot_lt _ _) (by decide) rfl dX6_found_24 ?_
      refine n_if_eq (tgt := 80) hx hb dX6_found_25 (by decide) (by omega) (fun c25 => ?_) (fun c25 => ?_)
      · refine lv_aload_n hx hb dX6_found_80 rfl (lv_at hl 1 rfl) ?_
        refine va_get (D := D) (ci := 4) (v := .int (nI B.length)) (C := RX6) (T := TX6) (N := 34) hx hb hts hinX60 hown hK.1 hP 0 rfl rfl 22 (by decide) (hts (.fieldLink RX6 188 "RenamingGridModel" "count" "I") (List.mem_of_getElem? (i := 7) rfl)) (fun _ h9 => h9) rfl dX6_found_81 ?_
        refine lv_sipush (v := nI 4000) hx hb dX6_found_84 (by decide) ?_
        refine n_ic_gt (tgt := 185) hx hb dX6_found_87 (by decide) (by omega) (by decide) (fun c87 => ?_) (fun c87 => ?_)
        · have hpush : pushB B x c mv = B := push_full (by omega)
          exact uRetV hx hb hr hlocks hK hP hD hS ⟨rfl, fR, fQ, fD, fP, fB, t, by rw [hpush]; exact hR, by rw [hpush]; exact hH, by rw [hpush]⟩ (Nat.le_of_ble_eq_true rfl) (Nat.le_of_ble_eq_true rfl) dX6_found_185
        · refine lv_aload_n hx hb dX6_found_90 rfl (lv_at hl 1 rfl) ?_
          refine va_get (D := D) (ci := 4) (v := .ref (r 17)) (C := RX6) (T := TX6) (N := 34) hx hb hts hinX60 hown hK.1 hP 0 rfl rfl 17 (by decide) (hts (.fieldLink RX6 26 "RenamingGridModel" "registersOf" "[I") (List.mem_of_getElem? (i := 5) rfl)) (fun _ h9 => h9) rfl dX6_found_91 ?_
          refine lv_aload_n hx hb dX6_found_94 rfl (lv_at hl 1 rfl) ?_
          refine va_get (D := D) (ci := 4) (v := .int (nI B.length)) (C := RX6) (T := TX6) (N := 34) hx hb hts hinX60 hown hK.1 hP 0 rfl rfl 22 (by decide) (hts (.fieldLink RX6 188 "RenamingGridModel" "count" "I") (List.mem_of_getElem? (i := 7) rfl)) (fun _ h9 => h9) rfl dX6_found_95 ?_
          refine lv_aload_n hx hb dX6_found_98 rfl (lv_at hl 1 rfl) ?_
          refine va_get (D := D) (ci := 4) (v := .int (nI (regs x))) (C := RX6) (T := TX6) (N := 34) hx hb hts hinX60 hown hK.1 hP 0 rfl rfl 8 (by decide) (hts (.fieldLink RX6 64 "RenamingGridModel" "registers" "I") (List.mem_of_getElem? (i := 1) rfl)) (fun _ h9 => h9) (congrArg (fun z => some (Value.int z)) hg8) dX6_found_99 ?_
          refine n_iast (D := D) (ca := ca) hx hb hK.1 hP hD hS 1 (f := fR) rfl (by omega) (by decide) dX6_found_102 (fun H locs hP hD hS => ?_)
          have hP : va_P D vwCl [(m, .inr (4, mF r (upd g 22 (nI B.length)))), (r 17, .inl (ca 0, 4001, .inl (upd fR B.length (nI (regs x))))), (r 18, .inl (ca 0, 4001, .inl fQ)), (r 19, .inl (ca 0, 4001, .inl fD)), (r 20, .inl (ca 0, 4001, .inl fP)), (r 21, .inl (ca 0, 4001, .inl fB)), (r 23, .inl (ca 0, 8192, .inl (rwN t)))] H := hP
          have hD : va_D A [(m, .inr (4, mF r (upd g 22 (nI B.length)))), (r 17, .inl (ca 0, 4001, .inl (upd fR B.length (nI (regs x))))), (r 18, .inl (ca 0, 4001, .inl fQ)), (r 19, .inl (ca 0, 4001, .inl fD)), (r 20, .inl (ca 0, 4001, .inl fP)), (r 21, .inl (ca 0, 4001, .inl fB)), (r 23, .inl (ca 0, 8192, .inl (rwN t)))] := hD
          refine lv_aload_n hx hb dX6_found_103 rfl (lv_at hl 1 rfl) ?_
          refine va_get (D := D) (ci := 4) (v := .ref (r 18)) (C := RX6) (T := TX6) (N := 34) hx hb hts hinX60 hown hK.1 hP 0 rfl rfl 18 (by decide) (hts (.fieldLink RX6 29 "RenamingGridModel" "processesOf" "[I") (List.mem_of_getElem? (i := 6) rfl)) (fun _ h9 => h9) rfl dX6_found_104 ?_
          refine lv_aload_n hx hb dX6_found_107 rfl (lv_at hl 1 rfl) ?_
          refine va_get (D := D) (ci := 4) (v := .int (nI B.length)) (C := RX6) (T := TX6) (N := 34) hx hb hts hinX60 hown hK.1 hP 0 rfl rfl 22 (by decide) (hts (.fieldLink RX6 188 "RenamingGridModel" "count" "I") (List.mem_of_getElem? (i := 7) rfl)) (fun _ h9 => h9) rfl dX6_found_108 ?_
          refine lv_aload_n hx hb dX6_found_111 rfl (lv_at hl 1 rfl) ?_
          refine va_get (D := D) (ci := 4) (v := .int (nI (qn x))) (C := RX6) (T := TX6) (N := 34) hx hb hts hinX60 hown hK.1 hP 0 rfl rfl 9 (by decide) (hts (.fieldLink RX6 61 "RenamingGridModel" "processes" "I") (List.mem_of_getElem? (i := 2) rfl)) (fun _ h9 => h9) (congrArg (fun z => some (Value.int z)) hg9) dX6_found_112 ?_
          refine n_iast (D := D) (ca := ca) hx hb hK.1 hP hD hS 2 (f := fQ) rfl (by omega) (by decide) dX6_found_115 (fun H locs hP hD hS => ?_)
          have hP : va_P D vwCl [(m, .inr (4, mF r (upd g 22 (nI B.length)))), (r 17, .inl (ca 0, 4001, .inl (upd fR B.length (nI (regs x))))), (r 18, .inl (ca 0, 4001, .inl (upd fQ B.length (nI (qn x))))), (r 19, .inl (ca 0, 4001, .inl fD)), (r 20, .inl (ca 0, 4001, .inl fP)), (r 21, .inl (ca 0, 4001, .inl fB)), (r 23, .inl (ca 0, 8192, .inl (rwN t)))] H := hP
          have hD : va_D A [(m, .inr (4, mF r (upd g 22 (nI B.length)))), (r 17, .inl (ca 0, 4001, .inl (upd fR B.length (nI (regs x))))), (r 18, .inl (ca 0, 4001, .inl (upd fQ B.length (nI (qn x))))), (r 19, .inl (ca 0, 4001, .inl fD)), (r 20, .inl (ca 0, 4001, .inl fP)), (r 21, .inl (ca 0, 4001, .inl fB)), (r 23, .inl (ca 0, 8192, .inl (rwN t)))] := hD
          refine lv_aload_n hx hb dX6_found_116 rfl (lv_at hl 1 rfl) ?_
          refine va_get (D := D) (ci := 4) (v := .ref (r 19)) (C := RX6) (T := TX6) (N := 34) hx hb hts hinX60 hown hK.1 hP 0 rfl rfl 19 (by decide) (hts (.fieldLink RX6 32 "RenamingGridModel" "depthOf" "[I") (List.mem_of_getElem? (i := 8) rfl)) (fun _ h9 => h9) rfl dX6_found_117 ?_
          refine lv_aload_n hx hb dX6_found_120 rfl (lv_at hl 1 rfl) ?_
          refine va_get (D := D) (ci := 4) (v := .int (nI B.length)) (C := RX6) (T := TX6) (N := 34) hx hb hts hinX60 hown hK.1 hP 0 rfl rfl 22 (by decide) (hts (.fieldLink RX6 188 "RenamingGridModel" "count" "I") (List.mem_of_getElem? (i := 7) rfl)) (fun _ h9 => h9) rfl dX6_found_121 ?_
          refine lv_iload_n hx hb dX6_found_124 rfl (lv_at hl 2 rfl) ?_
          refine lv_bipush (v := -9) hx hb dX6_found_125 (by decide) ?_
          refine lv_icmp_ne (tgt := 134) hx hb dX6_found_127 (by decide) (fun c127 => ?_) (fun c127 => absurd c127 (nI_n9 (by omega)))
          refine lv_aload_n hx hb dX6_found_134 rfl (lv_at hl 1 rfl) ?_
          refine va_get (D := D) (ci := 4) (v := .ref (r 19)) (C := RX6) (T := TX6) (N := 34) hx hb hts hinX60 hown hK.1 hP 0 rfl rfl 19 (by decide) (hts (.fieldLink RX6 32 "RenamingGridModel" "depthOf" "[I") (List.mem_of_getElem? (i := 8) rfl)) (fun _ h9 => h9) rfl dX6_found_135 ?_
          refine lv_iload_n hx hb dX6_found_138 rfl (lv_at hl 2 rfl) ?_
          refine n_iald (D := D) (ca := ca) (v := (nI (dep B c))) hx hb hK.1 hP 3 (f := fD) rfl (by omega) (by decide) (hR c hc).2.2.1 dX6_found_139 ?_
          refine lv_iconst (v := nI 1) hx hb dX6_found_140 (by decide) ?_
          refine n_iadd hx hb dX6_found_141 ?_
          refine n_iast (D := D) (ca := ca) hx hb hK.1 hP hD hS 3 (f := fD) rfl (by omega) (by decide) dX6_found_142 (fun H locs hP hD hS => ?_)
          have hP : va_P D vwCl [(m, .inr (4, mF r (upd g 22 (nI B.length)))), (r 17, .inl (ca 0, 4001, .inl (upd fR B.length (nI (regs x))))), (r 18, .inl (ca 0, 4001, .inl (upd fQ B.length (nI (qn x))))), (r 19, .inl (ca 0, 4001, .inl (upd fD B.length (nI ((dep B c) + 1))))), (r 20, .inl (ca 0, 4001, .inl fP)), (r 21, .inl (ca 0, 4001, .inl fB)), (r 23, .inl (ca 0, 8192, .inl (rwN t)))] H := hP
          have hD : va_D A [(m, .inr (4, mF r (upd g 22 (nI B.length)))), (r 17, .inl (ca 0, 4001, .inl (upd fR B.length (nI (regs x))))), (r 18, .inl (ca 0, 4001, .inl (upd fQ B.length (nI (qn x))))), (r 19, .inl (ca 0, 4001, .inl (upd fD B.length (nI ((dep B c) + 1))))), (r 20, .inl (ca 0, 4001, .inl fP)), (r 21, .inl (ca 0, 4001, .inl fB)), (r 23, .inl (ca 0, 8192, .inl (rwN t)))] := hD
          refine lv_aload_n hx hb dX6_found_143 rfl (lv_at hl 1 rfl) ?_
          refine va_get (D := D) (ci := 4) (v := .ref (r 20)) (C := RX6) (T := TX6) (N := 34) hx hb hts hinX60 hown hK.1 hP 0 rfl rfl 20 (by decide) (hts (.fieldLink RX6 35 "RenamingGridModel" "parentOf" "[I") (List.mem_of_getElem? (i := 9) rfl)) (fun _ h9 => h9) rfl dX6_found_144 ?_
          refine lv_aload_n hx hb dX6_found_147 rfl (lv_at hl 1 rfl) ?_
          refine va_get (D := D) (ci := 4) (v := .int (nI B.length)) (C := RX6) (T := TX6) (N := 34) hx hb hts hinX60 hown hK.1 hP 0 rfl rfl 22 (by decide) (hts (.fieldLink RX6 188 "RenamingGridModel" "count" "I") (List.mem_of_getElem? (i := 7) rfl)) (fun _ h9 => h9) rfl dX6_found_148 ?_
          refine lv_iload_n hx hb dX6_found_151 rfl (lv_at hl 2 rfl) ?_
          refine n_iast (D := D) (ca := ca) hx hb hK.1 hP hD hS 4 (f := fP) rfl (by omega) (by decide) dX6_found_152 (fun H locs hP hD hS => ?_)
          have hP : va_P D vwCl [(m, .inr (4, mF r (upd g 22 (nI B.length)))), (r 17, .inl (ca 0, 4001, .inl (upd fR B.length (nI (regs x))))), (r 18, .inl (ca 0, 4001, .inl (upd fQ B.length (nI (qn x))))), (r 19, .inl (ca 0, 4001, .inl (upd fD B.length (nI ((dep B c) + 1))))), (r 20, .inl (ca 0, 4001, .inl (upd fP B.length (nI c)))), (r 21, .inl (ca 0, 4001, .inl fB)), (r 23, .inl (ca 0, 8192, .inl (rwN t)))] H := hP
          have hD : va_D A [(m, .inr (4, mF r (upd g 22 (nI B.length)))), (r 17, .inl (ca 0, 4001, .inl (upd fR B.length (nI (regs x))))), (r 18, .inl (ca 0, 4001, .inl (upd fQ B.length (nI (qn x))))), (r 19, .inl (ca 0, 4001, .inl (upd fD B.length (nI ((dep B c) + 1))))), (r 20, .inl (ca 0, 4001, .inl (upd fP B.length (nI c)))), (r 21, .inl (ca 0, 4001, .inl fB)), (r 23, .inl (ca 0, 8192, .inl (rwN t)))] := hD
          refine lv_aload_n hx hb dX6_found_153 rfl (lv_at hl 1 rfl) ?_
          refine va_get (D := D) (ci := 4) (v := .ref (r 21)) (C := RX6) (T := TX6) (N := 34) hx hb hts hinX60 hown hK.1 hP 0 rfl rfl 21 (by decide) (hts (.fieldLink RX6 38 "RenamingGridModel" "byOf" "[I") (List.mem_of_getElem? (i := 10) rfl)) (fun _ h9 => h9) rfl dX6_found_154 ?_
          refine lv_aload_n hx hb dX6_found_157 rfl (lv_at hl 1 rfl) ?_
          refine va_get (D := D) (ci := 4) (v := .int (nI B.length)) (C := RX6) (T := TX6) (N := 34) hx hb hts hinX60 hown hK.1 hP 0 rfl rfl 22 (by decide) (hts (.fieldLink RX6 188 "RenamingGridModel" "count" "I") (List.mem_of_getElem? (i := 7) rfl)) (fun _ h9 => h9) rfl dX6_found_158 ?_
          refine lv_iload_n hx hb dX6_found_161 rfl (lv_at hl 3 rfl) ?_
          refine n_iast (D := D) (ca := ca) hx hb hK.1 hP hD hS 5 (f := fB) rfl (by omega) (by decide) dX6_found_162 (fun H locs hP hD hS => ?_)
          have hP : va_P D vwCl [(m, .inr (4, mF r (upd g 22 (nI B.length)))), (r 17, .inl (ca 0, 4001, .inl (upd fR B.length (nI (regs x))))), (r 18, .inl (ca 0, 4001, .inl (upd fQ B.length (nI (qn x))))), (r 19, .inl (ca 0, 4001, .inl (upd fD B.length (nI ((dep B c) + 1))))), (r 20, .inl (ca 0, 4001, .inl (upd fP B.length (nI c)))), (r 21, .inl (ca 0, 4001, .inl (upd fB B.length (nI mv)))), (r 23, .inl (ca 0, 8192, .inl (rwN t)))] H := hP
          have hD : va_D A [(m, .inr (4, mF r (upd g 22 (nI B.length)))), (r 17, .inl (ca 0, 4001, .inl (upd fR B.length (nI (regs x))))), (r 18, .inl (ca 0, 4001, .inl (upd fQ B.length (nI (qn x))))), (r 19, .inl (ca 0, 4001, .inl (upd fD B.length (nI ((dep B c) + 1))))), (r 20, .inl (ca 0, 4001, .inl (upd fP B.length (nI c)))), (r 21, .inl (ca 0, 4001, .inl (upd fB B.length (nI mv)))), (r 23, .inl (ca 0, 8192, .inl (rwN t)))] := hD
          refine lv_aload_n hx hb dX6_found_163 rfl (lv_at hl 1 rfl) ?_
          refine va_get (D := D) (ci := 4) (v := .ref (r 23)) (C := RX6) (T := TX6) (N := 34) hx hb hts hinX60 hown hK.1 hP 0 rfl rfl 23 (by decide) (hts (.fieldLink RX6 41 "RenamingGridModel" "table" "[I") (List.mem_of_getElem? (i := 4) rfl)) (fun _ h9 => h9) rfl dX6_found_164 ?_
          refine lv_iload_n hx hb dX6_found_167 rfl (lv_at hl 0 rfl) ?_
          refine lv_aload_n hx hb dX6_found_168 rfl (lv_at hl 1 rfl) ?_
          refine va_get (D := D) (ci := 4) (v := .int (nI B.length)) (C := RX6) (T := TX6) (N := 34) hx hb hts hinX60 hown hK.1 hP 0 rfl rfl 22 (by decide) (hts (.fieldLink RX6 188 "RenamingGridModel" "count" "I") (List.mem_of_getElem? (i := 7) rfl)) (fun _ h9 => h9) rfl dX6_found_169 ?_
          refine lv_iconst (v := nI 1) hx hb dX6_found_172 (by decide) ?_
          refine n_iadd hx hb dX6_found_173 ?_
          refine n_iast (D := D) (ca := ca) hx hb hK.1 hP hD hS 6 (f := (rwN t)) rfl (slot_lt _ _) (by decide) dX6_found_174 (fun H locs hP hD hS => ?_)
          have hP : va_P D vwCl [(m, .inr (4, mF r (upd g 22 (nI B.length)))), (r 17, .inl (ca 0, 4001, .inl (upd fR B.length (nI (regs x))))), (r 18, .inl (ca 0, 4001, .inl (upd fQ B.length (nI (qn x))))), (r 19, .inl (ca 0, 4001, .inl (upd fD B.length (nI ((dep B c) + 1))))), (r 20, .inl (ca 0, 4001, .inl (upd fP B.length (nI c)))), (r 21, .inl (ca 0, 4001, .inl (upd fB B.length (nI mv)))), (r 23, .inl (ca 0, 8192, .inl (upd (rwN t) (slot (hM x) d) (nI (B.length + 1)))))] H := hP
          have hD : va_D A [(m, .inr (4, mF r (upd g 22 (nI B.length)))), (r 17, .inl (ca 0, 4001, .inl (upd fR B.length (nI (regs x))))), (r 18, .inl (ca 0, 4001, .inl (upd fQ B.length (nI (qn x))))), (r 19, .inl (ca 0, 4001, .inl (upd fD B.length (nI ((dep B c) + 1))))), (r 20, .inl (ca 0, 4001, .inl (upd fP B.length (nI c)))), (r 21, .inl (ca 0, 4001, .inl (upd fB B.length (nI mv)))), (r 23, .inl (ca 0, 8192, .inl (upd (rwN t) (slot (hM x) d) (nI (B.length + 1)))))] := hD
          rw [rwN_up] at hP hD
          refine lv_aload_n hx hb dX6_found_175 rfl (lv_at hl 1 rfl) ?_
          refine lv_dup hx hb dX6_found_176 rfl ?_
          refine va_get (D := D) (ci := 4) (v := .int (nI B.length)) (C := RX6) (T := TX6) (N := 34) hx hb hts hinX60 hown hK.1 hP 0 rfl rfl 22 (by decide) (hts (.fieldLink RX6 188 "RenamingGridModel" "count" "I") (List.mem_of_getElem? (i := 7) rfl)) (fun _ h9 => h9) rfl dX6_found_177 ?_
          refine lv_iconst (v := nI 1) hx hb dX6_found_180 (by decide) ?_
          refine n_iadd hx hb dX6_found_181 ?_
          refine va_put (D := D) (ci := 4) (v := .int (nI (B.length + 1))) (ty := tyX6 22) (C := RX6) (T := TX6) (N := 34) hx hb hts hinX60 tyX6 tyX6_ok nmX6 hown hK.1 hP hD hS 0 rfl rfl 22 (by decide) (hts (.fieldLink RX6 188 "RenamingGridModel" "count" "I") (List.mem_of_getElem? (i := 7) rfl)) (fun _ h9 => h9) rfl (tyX6_ok 22 (by decide)) rfl rfl (Nat.le_of_ble_eq_true rfl) dX6_found_182 (fun H locs hP hD hS => ?_)
          have hP : va_P D vwCl [(m, .inr (4, mF r (upd g 22 (nI (B.length + 1))))), (r 17, .inl (ca 0, 4001, .inl (upd fR B.length (nI (regs x))))), (r 18, .inl (ca 0, 4001, .inl (upd fQ B.length (nI (qn x))))), (r 19, .inl (ca 0, 4001, .inl (upd fD B.length (nI ((dep B c) + 1))))), (r 20, .inl (ca 0, 4001, .inl (upd fP B.length (nI c)))), (r 21, .inl (ca 0, 4001, .inl (upd fB B.length (nI mv)))), (r 23, .inl (ca 0, 8192, .inl (rwN (va_up t (slot (hM x) d) (B.length + 1)))))] H := hP
          have hD : va_D A [(m, .inr (4, mF r (upd g 22 (nI (B.length + 1))))), (r 17, .inl (ca 0, 4001, .inl (upd fR B.length (nI (regs x))))), (r 18, .inl (ca 0, 4001, .inl (upd fQ B.length (nI (qn x))))), (r 19, .inl (ca 0, 4001, .inl (upd fD B.length (nI ((dep B c) + 1))))), (r 20, .inl (ca 0, 4001, .inl (upd fP B.length (nI c)))), (r 21, .inl (ca 0, 4001, .inl (upd fB B.length (nI mv)))), (r 23, .inl (ca 0, 8192, .inl (rwN (va_up t (slot (hM x) d) (B.length + 1)))))] := hD
          have hno := ht_no hH hp c25
          have hpush : pushB B x c mv = B ++ [(x, c, mv)] := push_f hno (by omega)
          have hlen : (B ++ [(x, c, mv)]).length = B.length + 1 := len_app _ _
          exact uRetV hx hb hr hlocks hK hP hD hS ⟨rfl, (upd fR B.length (nI (regs x))), (upd fQ B.length (nI (qn x))), (upd fD B.length (nI ((dep B c) + 1))), (upd fP B.length (nI c)), (upd fB B.length (nI mv)), va_up t (slot (hM x) d) (B.length + 1), by rw [hpush]; exact RM_app hR hW (fun _ => hc) (by rw [if_pos (by omega)]) (fun _ => rfl) (fun _ => rfl), by rw [hpush, hlen]; exact ht_ins hH hd2 (fun e he => (hp e he).1) c25 (fun j hj => bC_app hj) bC_last, by rw [hpush, hlen]⟩ (Nat.le_of_ble_eq_true rfl) (Nat.le_of_ble_eq_true rfl) dX6_found_185
      · refine lv_aload_n hx hb dX6_found_28 rfl (lv_at hl 1 rfl) ?_
        refine va_get (D := D) (ci := 4) (v := .ref (r 17)) (C := RX6) (T := TX6) (N := 34) hx hb hts hinX60 hown hK.1 hP 0 rfl rfl 17 (by decide) (hts (.fieldLink RX6 26 "RenamingGridModel" "registersOf" "[I") (List.mem_of_getElem? (i := 5) rfl)) (fun _ h9 => h9) rfl dX6_found_29 ?_
        refine lv_aload_n hx hb dX6_found_32 rfl (lv_at hl 1 rfl) ?_
        refine va_get (D := D) (ci := 4) (v := .ref (r 23)) (C := RX6) (T := TX6) (N := 34) hx hb hts hinX60 hown hK.1 hP 0 rfl rfl 23 (by decide) (hts (.fieldLink RX6 41 "RenamingGridModel" "table" "[I") (List.mem_of_getElem? (i := 4) rfl)) (fun _ h9 => h9) rfl dX6_found_33 ?_
        refine lv_iload_n hx hb dX6_found_36 rfl (lv_at hl 0 rfl) ?_
        refine n_iald (D := D) (ca := ca) (v := (nI (t (slot (hM x) d)))) hx hb hK.1 hP 6 (f := (rwN t)) rfl (slot_lt _ _) (by decide) rfl dX6_found_37 ?_
        refine lv_iconst (v := nI 1) hx hb dX6_found_38 (by decide) ?_
        refine n_isub hx hb (by omega) dX6_found_39 ?_
        refine n_iald (D := D) (ca := ca) (v := (nI (regs (bC B (t (slot (hM x) d) - 1))))) hx hb hK.1 hP 1 (f := fR) rfl (by omega) (by decide) (hR (t (slot (hM x) d) - 1) (by omega)).1 dX6_found_40 ?_
        refine lv_aload_n hx hb dX6_found_41 rfl (lv_at hl 1 rfl) ?_
        refine va_get (D := D) (ci := 4) (v := .int (nI (regs x))) (C := RX6) (T := TX6) (N := 34) hx hb hts hinX60 hown hK.1 hP 0 rfl rfl 8 (by decide) (hts (.fieldLink RX6 64 "RenamingGridModel" "registers" "I") (List.mem_of_getElem? (i := 1) rfl)) (fun _ h9 => h9) (congrArg (fun z => some (Value.int z)) hg8) dX6_found_42 ?_
        refine n_ic_ne (tgt := 69) hx hb dX6_found_45 (by decide) (Nat.lt_trans (regs_lt (hV _ (by omega)).1) (by decide)) (Nat.lt_trans (regs_lt hx0.1) (by decide)) (fun c45 => ?_) (fun c45 => ?_)
        · refine lv_iload_n hx hb dX6_found_69 rfl (lv_at hl 0 rfl) ?_
          refine lv_iconst (v := nI 1) hx hb dX6_found_70 (by decide) ?_
          refine n_iadd hx hb dX6_found_71 ?_
          refine lv_sipush (v := nI 8191) hx hb dX6_found_72 (by decide) ?_
          refine n_iand hx hb 13 (by decide) dX6_found_75 ?_
          rw [show (nI (((slot (hM x) d) + 1) % 2 ^ 13)) = (nI (slot (hM x) (d + 1))) from (by rw [slot_s])]
          refine lv_istore_n (lv' := [(3, .int (nI (slot (hM x) (d + 1)))), (0, .ref m), (1, .int (nI c)), (2, .int (nI mv))]) hx hb dX6_found_76 rfl hl (by decide) rfl (fun ls hl => ?_)
          refine lv_goto (tgt := 19) hx hb dX6_found_77 (by decide) ?_
          exact ih19 (d + 1) (by omega) (fun e he => (Nat.lt_or_ge e d).elim (fun q => hp e q) (fun q => (show d = e by omega) ▸ ⟨c25, fun z => c45 (congrArg regs z)⟩)) (by omega) H locs hP hD hS ls (lv_sub hl [0, 1, 2, 3] rfl)
        · refine lv_aload_n hx hb dX6_found_48 rfl (lv_at hl 1 rfl) ?_
          refine va_get (D := D) (ci := 4) (v := .ref (r 18)) (C := RX6) (T := TX6) (N := 34) hx hb hts hinX60 hown hK.1 hP 0 rfl rfl 18 (by decide) (hts (.fieldLink RX6 29 "RenamingGridModel" "processesOf" "[I") (List.mem_of_getElem? (i := 6) rfl)) (fun _ h9 => h9) rfl dX6_found_49 ?_
          refine lv_aload_n hx hb dX6_found_52 rfl (lv_at hl 1 rfl) ?_
          refine va_get (D := D) (ci := 4) (v := .ref (r 23)) (C := RX6) (T := TX6) (N := 34) hx hb hts hinX60 hown hK.1 hP 0 rfl rfl 23 (by decide) (hts (.fieldLink RX6 41 "RenamingGridModel" "table" "[I") (List.mem_of_getElem? (i := 4) rfl)) (fun _ h9 => h9) rfl dX6_found_53 ?_
          refine lv_iload_n hx hb dX6_found_56 rfl (lv_at hl 0 rfl) ?_
          refine n_iald (D := D) (ca := ca) (v := (nI (t (slot (hM x) d)))) hx hb hK.1 hP 6 (f := (rwN t)) rfl (slot_lt _ _) (by decide) rfl dX6_found_57 ?_
          refine lv_iconst (v := nI 1) hx hb dX6_found_58 (by decide) ?_
          refine n_isub hx hb (by omega) dX6_found_59 ?_
          refine n_iald (D := D) (ca := ca) (v := (nI (qn (bC B (t (slot (hM x) d) - 1))))) hx hb hK.1 hP 2 (f := fQ) rfl (by omega) (by decide) (hR (t (slot (hM x) d) - 1) (by omega)).2.1 dX6_found_60 ?_
          refine lv_aload_n hx hb dX6_found_61 rfl (lv_at hl 1 rfl) ?_
          refine va_get (D := D) (ci := 4) (v := .int (nI (qn x))) (C := RX6) (T := TX6) (N := 34) hx hb hts hinX60 hown hK.1 hP 0 rfl rfl 9 (by decide) (hts (.fieldLink RX6 61 "RenamingGridModel" "processes" "I") (List.mem_of_getElem? (i := 2) rfl)) (fun _ h9 => h9) (congrArg (fun z => some (Value.int z)) hg9) dX6_found_62 ?_
          refine n_ic_ne (tgt := 69) hx hb dX6_found_65 (by decide) (Nat.lt_trans (qn_lt _) (by decide)) (Nat.lt_trans (qn_lt _) (by decide)) (fun c65 => ?_) (fun c65 => ?_)
          · refine lv_iload_n hx hb dX6_found_69 rfl (lv_at hl 0 rfl) ?_
            refine lv_iconst (v := nI 1) hx hb dX6_found_70 (by decide) ?_
            refine n_iadd hx hb dX6_found_71 ?_
            refine lv_sipush (v := nI 8191) hx hb dX6_found_72 (by decide) ?_
            refine n_iand hx hb 13 (by decide) dX6_found_75 ?_
            rw [show (nI (((slot (hM x) d) + 1) % 2 ^ 13)) = (nI (slot (hM x) (d + 1))) from (by rw [slot_s])]
            refine lv_istore_n (lv' := [(3, .int (nI (slot (hM x) (d + 1)))), (0, .ref m), (1, .int (nI c)), (2, .int (nI mv))]) hx hb dX6_found_76 rfl hl (by decide) rfl (fun ls hl => ?_)
            refine lv_goto (tgt := 19) hx hb dX6_found_77 (by decide) ?_
            exact ih19 (d + 1) (by omega) (fun e he => (Nat.lt_or_ge e d).elim (fun q => hp e q) (fun q => (show d = e by omega) ▸ ⟨c25, fun z => c65 (congrArg qn z)⟩)) (by omega) H locs hP hD hS ls (lv_sub hl [0, 1, 2, 3] rfl)
          · have hpush : pushB B x c mv = B := push_t ⟨t (slot (hM x) d) - 1, by omega, pack_inj (hV _ (by omega)) hx0 c45 c65⟩
            exact uRetV hx hb hr hlocks hK hP hD hS ⟨rfl, fR, fQ, fD, fP, fB, t, by rw [hpush]; exact hR, by rw [hpush]; exact hH, by rw [hpush]⟩ (Nat.le_of_ble_eq_true rfl) (Nat.le_of_ble_eq_true rfl) dX6_found_68
  exact loop19 8193 0 (by omega) (fun e he => absurd he (Nat.not_lt_zero e)) (by omega) _ _ hP hD hS ls (lv_sub hl [0, 1, 2, 3] rfl)

set_option maxHeartbeats 4000000 in
set_option maxRecDepth 100000 in
theorem c_X6_findAll (l : Launch) (D : va_G) (ca : Nat → ClassId) (m : Nat) (r : Nat → Nat) (g : Nat → Int32) (s S : Nat → Nat) (hs : MR s S) (hok : SOK S) (fR fQ fD fP fB : Nat → Int32) (t : Nat → Nat) : UP l D ca yX6_findAll wsX6_findAll 3 71 0 0 [(m, .inr (4, mF r g)), (r 1, .inl (ca 0, 38, .inl (rwN s))), (r 17, .inl (ca 0, 4001, .inl fR)), (r 18, .inl (ca 0, 4001, .inl fQ)), (r 19, .inl (ca 0, 4001, .inl fD)), (r 20, .inl (ca 0, 4001, .inl fP)), (r 21, .inl (ca 0, 4001, .inl fB)), (r 23, .inl (ca 0, 8192, .inl (rwN t)))] [.ref m] (fun v W1 => v = none ∧ ∃ (fR fQ fD fP fB : Nat → Int32) (t : Nat → Nat) (a8 a9 x y : Int32), RM (BF S) fR fQ fD fP fB ∧ W1 = [(m, .inr (4, mF r (upd (upd (upd (upd (upd g 8 a8) 9 a9) 10 x) 11 y) 22 (nI ((BF S).length))))), (r 1, .inl (ca 0, 38, .inl (rwN s))), (r 17, .inl (ca 0, 4001, .inl fR)), (r 18, .inl (ca 0, 4001, .inl fQ)), (r 19, .inl (ca 0, 4001, .inl fD)), (r 20, .inl (ca 0, 4001, .inl fP)), (r 21, .inl (ca 0, 4001, .inl fB)), (r 23, .inl (ca 0, 8192, .inl (rwN t)))]) := by
  refine UP.start (cc := cX6_findAll) (maxL := 3) (ret := none) (by decide) rfl (Nat.le_of_ble_eq_true rfl) ?_
  intro p_ e_ s_ m_ below_ meth_ c_ A hx hb hml hr hlocks hin hown hts hK hA hP hD hS ls hl
  have hown : s_.vm.findClass RX6 = some m_.cls := hown
  have hl : lv_has ls 3 [(0, .ref m)] := hl
  have hinX60 : ∀ w ∈ wsX60, w ∈ wsX6_findAll := fun w h => List.mem_cons_of_mem _ (List.mem_append_right _ h)
  have hn3 := hok.2.1
  have hroot : pushB [] (S 3) 0 9 = [(S 3, 0, 9)] := push_f (fun j hj => absurd hj (Nat.not_lt_zero j)) (by decide)
  refine lv_iconst (v := nI 0) hx hb dX6_findAll_0 (by decide) ?_
  refine lv_istore_n (lv' := [(1, .int (nI 0)), (0, .ref m)]) hx hb dX6_findAll_1 rfl hl (by decide) rfl (fun ls hl => ?_)
  rw [bz_0 t] at hP hD
  have loop2 : ∀ (N_ : Nat) (k : Nat) (hk : k ≤ 8192) (hf : 8192 < k + N_), ∀ (H : Heap) (locs : List Loc), va_P D vwCl [(m, .inr (4, mF r g)), (r 1, .inl (ca 0, 38, .inl (rwN s))), (r 17, .inl (ca 0, 4001, .inl fR)), (r 18, .inl (ca 0, 4001, .inl fQ)), (r 19, .inl (ca 0, 4001, .inl fD)), (r 20, .inl (ca 0, 4001, .inl fP)), (r 21, .inl (ca 0, 4001, .inl fB)), (r 23, .inl (ca 0, 8192, .inl (rwN ((fun j => if j < k then 0 else t j)))))] H → va_D A [(m, .inr (4, mF r g)), (r 1, .inl (ca 0, 38, .inl (rwN s))), (r 17, .inl (ca 0, 4001, .inl fR)), (r 18, .inl (ca 0, 4001, .inl fQ)), (r 19, .inl (ca 0, 4001, .inl fD)), (r 20, .inl (ca 0, 4001, .inl fP)), (r 21, .inl (ca 0, 4001, .inl fB)), (r 23, .inl (ca 0, 8192, .inl (rwN ((fun j => if j < k then 0 else t j)))))] → va_S A s_.heap H locs → ∀ (ls : Array Slot), lv_has ls 3 [(1, .int (nI k)), (0, .ref m)] → W p_ l e_ ({ frames := 3, cells := 0, slots := 0, locals := 71 }) s_ m_ ([.ref m]).toArray below_ meth_ c_ H locs 0 0 (MQ below_ (uQA D ca A (fun v W1 => v = none ∧ ∃ (fR fQ fD fP fB : Nat → Int32) (t : Nat → Nat) (a8 a9 x y : Int32), RM (BF S) fR fQ fD fP fB ∧ W1 = [(m, .inr (4, mF r (upd (upd (upd (upd (upd g 8 a8) 9 a9) 10 x) 11 y) 22 (nI ((BF S).length))))), (r 1, .inl (ca 0, 38, .inl (rwN s))), (r 17, .inl (ca 0, 4001, .inl fR)), (r 18, .inl (ca 0, 4001, .inl fQ)), (r 19, .inl (ca 0, 4001, .inl fD)), (r 20, .inl (ca 0, 4001, .inl fP)), (r 21, .inl (ca 0, 4001, .inl fB)), (r 23, .inl (ca 0, 8192, .inl (rwN t)))])) ([.ref m]).toArray s_ 0 0 A) (F0 m_ 2 ls []) := by
    intro N_
    induction N_ with
    | zero => intro k hk hf; exfalso; omega
    | succ N_ ih2 =>
      intro k hk hf H locs hP hD hS ls hl
      refine lv_iload_n hx hb dX6_findAll_2 rfl (lv_at hl 0 rfl) ?_
      refine lv_sipush (v := nI 8192) hx hb dX6_findAll_3 (by decide) ?_
      refine n_ic_ge (tgt := 22) hx hb dX6_findAll_6 (by decide) (by omega) (by decide) (fun c6 => ?_) (fun c6 => ?_)
      · have hk8 : k = 8192 := by omega
        subst hk8
        refine lv_aload_n hx hb dX6_findAll_22 rfl (lv_at hl 1 rfl) ?_
        refine lv_iconst (v := nI 0) hx hb dX6_findAll_23 (by decide) ?_
        refine va_put (D := D) (ci := 4) (v := .int (nI 0)) (ty := tyX6 22) (C := RX6) (T := TX6) (N := 34) hx hb hts hinX60 tyX6 tyX6_ok nmX6 hown hK.1 hP hD hS 0 rfl rfl 22 (by decide) (hts (.fieldLink RX6 188 "RenamingGridModel" "count" "I") (List.mem_of_getElem? (i := 2) rfl)) (fun _ h9 => h9) rfl (tyX6_ok 22 (by decide)) rfl rfl (Nat.le_of_ble_eq_true rfl) dX6_findAll_24 (fun H locs hP hD hS => ?_)
        have hP : va_P D vwCl [(m, .inr (4, mF r (upd g 22 (nI 0)))), (r 1, .inl (ca 0, 38, .inl (rwN s))), (r 17, .inl (ca 0, 4001, .inl fR)), (r 18, .inl (ca 0, 4001, .inl fQ)), (r 19, .inl (ca 0, 4001, .inl fD)), (r 20, .inl (ca 0, 4001, .inl fP)), (r 21, .inl (ca 0, 4001, .inl fB)), (r 23, .inl (ca 0, 8192, .inl (rwN (fun j => if j < 8192 then 0 else t j))))] H := hP
        have hD : va_D A [(m, .inr (4, mF r (upd g 22 (nI 0)))), (r 1, .inl (ca 0, 38, .inl (rwN s))), (r 17, .inl (ca 0, 4001, .inl fR)), (r 18, .inl (ca 0, 4001, .inl fQ)), (r 19, .inl (ca 0, 4001, .inl fD)), (r 20, .inl (ca 0, 4001, .inl fP)), (r 21, .inl (ca 0, 4001, .inl fB)), (r 23, .inl (ca 0, 8192, .inl (rwN (fun j => if j < 8192 then 0 else t j))))] := hD
        refine lv_aload_n hx hb dX6_findAll_27 rfl (lv_at hl 1 rfl) ?_
        refine uV (nL := 3) (wr := [(r 17, .inl (ca 0, 4001, .inl fR)), (r 18, .inl (ca 0, 4001, .inl fQ)), (r 19, .inl (ca 0, 4001, .inl fD)), (r 20, .inl (ca 0, 4001, .inl fP)), (r 21, .inl (ca 0, 4001, .inl fB)), (r 23, .inl (ca 0, 8192, .inl (rwN (fun j => if j < 8192 then 0 else t j))))]) (ci := 4) (q0 := 0) (cq := (RX6, TX6, 34)) hx hb hml hown hts hK hA hP hD hS [] [] (c_X6_take l D ca m r ((upd g 22 (nI 0))) s S hs) gX6_findAll_X6_take rfl ⟨rfl, qX6_take⟩ ⟨Nat.le_of_ble_eq_true rfl, Nat.le_of_ble_eq_true rfl⟩ rfl rfl [0, 1] [2, 3, 4, 5, 6, 7] rfl rfl (by decide) (by decide) rfl hl.1 (Nat.le_of_ble_eq_true rfl) ⟨Nat.le_of_ble_eq_true rfl, Nat.le_of_ble_eq_true rfl⟩ dX6_findAll_28 (oneK (wsN := [(m, .inr (4, mF r (upd (upd (upd g 8 (nI (regs (S 3)))) 9 (nI (qn (S 3)))) 22 (nI 0)))), (r 1, .inl (ca 0, 38, .inl (rwN s))), (r 17, .inl (ca 0, 4001, .inl fR)), (r 18, .inl (ca 0, 4001, .inl fQ)), (r 19, .inl (ca 0, 4001, .inl fD)), (r 20, .inl (ca 0, 4001, .inl fP)), (r 21, .inl (ca 0, 4001, .inl fB)), (r 23, .inl (ca 0, 8192, .inl (rwN (fun j => if j < 8192 then 0 else t j))))]) [6, 7, 0, 1, 2, 3, 4, 5] (by decide) rfl (st1 := []) rfl 0 0 rfl rfl (fun H locs hP hD hS => ?_))
        refine lv_aload_n hx hb dX6_findAll_31 rfl (lv_at hl 1 rfl) ?_
        refine lv_bipush (v := -9) hx hb dX6_findAll_32 (by decide) ?_
        refine lv_bipush (v := -9) hx hb dX6_findAll_34 (by decide) ?_
        refine uV (nL := 3) (wr := [(r 1, .inl (ca 0, 38, .inl (rwN s)))]) (ci := 4) (q0 := 0) (cq := (RX6, TX6, 34)) hx hb hml hown hts hK hA hP hD hS [.int ((-9)), .int ((-9))] [] (c_X6_found_r l D ca m r ((upd (upd (upd g 8 (nI (regs (S 3)))) 9 (nI (qn (S 3)))) 22 (nI 0))) (S 0) (S 3) rfl rfl (VC_S hok) [] fR fQ fD fP fB (fun j => if j < 8192 then 0 else t j) (fun i hi => absurd hi (Nat.not_lt_zero i)) (ht_00 (fun z hz => if_pos hz)) (by decide) (fun j hj => absurd hj (Nat.not_lt_zero j)) (fun j _ hj => absurd hj (Nat.not_lt_zero j)) rfl) gX6_findAll_X6_found rfl ⟨rfl, qX6_found⟩ ⟨Nat.le_of_ble_eq_true rfl, Nat.le_of_ble_eq_true rfl⟩ rfl rfl [0, 2, 3, 4, 5, 6, 7] [1] rfl rfl (by decide) (by decide) rfl hl.1 (Nat.le_of_ble_eq_true rfl) ⟨Nat.le_of_ble_eq_true rfl, Nat.le_of_ble_eq_true rfl⟩ dX6_findAll_36 (fun v1 W1 H locs hO hP hD hS => ?_)
        obtain ⟨rfl, fR1, fQ1, fD1, fP1, fB1, t1, hR1, hH1, rfl⟩ := hO
        have hP : va_P D vwCl [(m, .inr (4, mF r (upd (upd (upd g 8 (nI (regs (S 3)))) 9 (nI (qn (S 3)))) 22 (nI ((pushB [] (S 3) 0 9).length))))), (r 1, .inl (ca 0, 38, .inl (rwN s))), (r 17, .inl (ca 0, 4001, .inl fR1)), (r 18, .inl (ca 0, 4001, .inl fQ1)), (r 19, .inl (ca 0, 4001, .inl fD1)), (r 20, .inl (ca 0, 4001, .inl fP1)), (r 21, .inl (ca 0, 4001, .inl fB1)), (r 23, .inl (ca 0, 8192, .inl (rwN t1)))] H := hP.sub [1, 0, 2, 3, 4, 5, 6, 7] rfl
        have hD : va_D A [(m, .inr (4, mF r (upd (upd (upd g 8 (nI (regs (S 3)))) 9 (nI (qn (S 3)))) 22 (nI ((pushB [] (S 3) 0 9).length))))), (r 1, .inl (ca 0, 38, .inl (rwN s))), (r 17, .inl (ca 0, 4001, .inl fR1)), (r 18, .inl (ca 0, 4001, .inl fQ1)), (r 19, .inl (ca 0, 4001, .inl fD1)), (r 20, .inl (ca 0, 4001, .inl fP1)), (r 21, .inl (ca 0, 4001, .inl fB1)), (r 23, .inl (ca 0, 8192, .inl (rwN t1)))] := hD.sub [1, 0, 2, 3, 4, 5, 6, 7] (by decide) rfl
        refine W.eq (g2 := F0 m_ 39 ls []) rfl ?_
        refine lv_iconst (v := nI 0) hx hb dX6_findAll_39 (by decide) ?_
        refine lv_istore_n (lv' := [(1, .int (nI 0)), (0, .ref m)]) hx hb dX6_findAll_40 rfl hl (by decide) rfl (fun ls hl => ?_)
        have loop41 : ∀ (N_ : Nat) (c : Nat) (u : Nat) (Bc : BL) (fR : Nat → Int32) (fQ : Nat → Int32) (fD : Nat → Int32) (fP : Nat → Int32) (fB : Nat → Int32) (t : Nat → Nat) (a8 : Int32) (a9 : Int32) (x : Int32) (y : Int32) (hj : c + u = 4001) (hs1 : bfL (S 0) (S 2) (S 1) u c Bc = BF S) (hOBc : OB (S 0) c Bc) (hR : RM Bc fR fQ fD fP fB) (hH : HT hM (bC Bc) Bc.length t) (hf : 4001 < c + N_), ∀ (H : Heap) (locs : List Loc), va_P D vwCl [(m, .inr (4, mF r (upd (upd (upd (upd (upd g 8 a8) 9 a9) 10 x) 11 y) 22 (nI Bc.length)))), (r 1, .inl (ca 0, 38, .inl (rwN s))), (r 17, .inl (ca 0, 4001, .inl fR)), (r 18, .inl (ca 0, 4001, .inl fQ)), (r 19, .inl (ca 0, 4001, .inl fD)), (r 20, .inl (ca 0, 4001, .inl fP)), (r 21, .inl (ca 0, 4001, .inl fB)), (r 23, .inl (ca 0, 8192, .inl (rwN t)))] H → va_D A [(m, .inr (4, mF r (upd (upd (upd (upd (upd g 8 a8) 9 a9) 10 x) 11 y) 22 (nI Bc.length)))), (r 1, .inl (ca 0, 38, .inl (rwN s))), (r 17, .inl (ca 0, 4001, .inl fR)), (r 18, .inl (ca 0, 4001, .inl fQ)), (r 19, .inl (ca 0, 4001, .inl fD)), (r 20, .inl (ca 0, 4001, .inl fP)), (r 21, .inl (ca 0, 4001, .inl fB)), (r 23, .inl (ca 0, 8192, .inl (rwN t)))] → va_S A s_.heap H locs → ∀ (ls : Array Slot), lv_has ls 3 [(1, .int (nI c)), (0, .ref m)] → W p_ l e_ ({ frames := 3, cells := 0, slots := 0, locals := 71 }) s_ m_ ([.ref m]).toArray below_ meth_ c_ H locs 0 0 (MQ below_ (uQA D ca A (fun v W1 => v = none ∧ ∃ (fR fQ fD fP fB : Nat → Int32) (t : Nat → Nat) (a8 a9 x y : Int32), RM (BF S) fR fQ fD fP fB ∧ W1 = [(m, .inr (4, mF r (upd (upd (upd (upd (upd g 8 a8) 9 a9) 10 x) 11 y) 22 (nI ((BF S).length))))), (r 1, .inl (ca 0, 38, .inl (rwN s))), (r 17, .inl (ca 0, 4001, .inl fR)), (r 18, .inl (ca 0, 4001, .inl fQ)), (r 19, .inl (ca 0, 4001, .inl fD)), (r 20, .inl (ca 0, 4001, .inl fP)), (r 21, .inl (ca 0, 4001, .inl fB)), (r 23, .inl (ca 0, 8192, .inl (rwN t)))])) ([.ref m]).toArray s_ 0 0 A) (F0 m_ 41 ls []) := by
          intro N_
          induction N_ with
          | zero => intro c u Bc fR fQ fD fP fB t a8 a9 x y hj hs1 hOBc hR hH hf; exfalso; omega
          | succ N_ ih41 =>
            intro c u Bc fR fQ fD fP fB t a8 a9 x y hj hs1 hOBc hR hH hf H locs hP hD hS ls hl
            have hl4 := hOBc.2.2.2.2.2.2
            refine lv_iload_n hx hb dX6_findAll_41 rfl (lv_at hl 0 rfl) ?_
            refine lv_aload_n hx hb dX6_findAll_42 rfl (lv_at hl 1 rfl) ?_
            refine va_get (D := D) (ci := 4) (v := .int (nI Bc.length)) (C := RX6) (T := TX6) (N := 34) hx hb hts hinX60 hown hK.1 hP 0 rfl rfl 22 (by decide) (hts (.fieldLink RX6 188 "RenamingGridModel" "count" "I") (List.mem_of_getElem? (i := 2) rfl)) (fun _ h9 => h9) rfl dX6_findAll_43 ?_
            refine n_ic_ge (tgt := 123) hx hb dX6_findAll_46 (by decide) (by omega) (by omega) (fun c46 => ?_) (fun c46 => ?_)
            · have hfin : BF S = Bc := by rw [← hs1]; cases u with | zero => rfl | succ u => show (if _ then _ else _) = _; rw [if_neg (by omega)]
              exact uRetV hx hb hr hlocks hK hP hD hS ⟨rfl, fR, fQ, fD, fP, fB, t, a8, a9, x, y, by rw [hfin]; exact hR, by rw [hfin]⟩ (Nat.le_of_ble_eq_true rfl) (Nat.le_of_ble_eq_true rfl) dX6_findAll_123
            · refine lv_aload_n hx hb dX6_findAll_49 rfl (lv_at hl 1 rfl) ?_
              refine va_get (D := D) (ci := 4) (v := .int (nI Bc.length)) (C := RX6) (T := TX6) (N := 34) hx hb hts hinX60 hown hK.1 hP 0 rfl rfl 22 (by decide) (hts (.fieldLink RX6 188 "RenamingGridModel" "count" "I") (List.mem_of_getElem? (i := 2) rfl)) (fun _ h9 => h9) rfl dX6_findAll_50 ?_
              refine lv_sipush (v := nI 4000) hx hb dX6_findAll_53 (by decide) ?_
              refine n_ic_gt (tgt := 123) hx hb dX6_findAll_56 (by decide) (by omega) (by decide) (fun c56 => ?_) (fun c56 => ?_)
              · have hfin : BF S = Bc := by rw [← hs1]; cases u with | zero => rfl | succ u => show (if _ then _ else _) = _; rw [if_neg (by omega)]
                exact uRetV hx hb hr hlocks hK hP hD hS ⟨rfl, fR, fQ, fD, fP, fB, t, a8, a9, x, y, by rw [hfin]; exact hR, by rw [hfin]⟩ (Nat.le_of_ble_eq_true rfl) (Nat.le_of_ble_eq_true rfl) dX6_findAll_123
              · have hC : VC (S 0) (bC Bc c) := hOBc.2.2.2.1 c c46
                obtain ⟨C, hCd⟩ : ∃ C, bC Bc c = C := ⟨_, rfl⟩
                rw [hCd] at hC
                refine lv_iconst (v := nI 0) hx hb dX6_findAll_59 (by decide) ?_
                refine lv_istore_n (lv' := [(2, .int (nI 0)), (1, .int (nI c)), (0, .ref m)]) hx hb dX6_findAll_60 rfl hl (by decide) rfl (fun ls hl => ?_)
                have loop61 : ∀ (N_ : Nat) (p : Nat) (d : Nat) (Bp : BL) (fR : Nat → Int32) (fQ : Nat → Int32) (fD : Nat → Int32) (fP : Nat → Int32) (fB : Nat → Int32) (t : Nat → Nat) (a8 : Int32) (a9 : Int32) (x : Int32) (y : Int32) (hj2 : p + d = S 1) (hs2 : exB (S 0) (S 2) c d p Bp = exB (S 0) (S 2) c (S 1) 0 Bc) (hc1 : c < Bp.length) (hCe : bC Bp c = C) (hOB : OB (S 0) c Bp) (hR : RM Bp fR fQ fD fP fB) (hH : HT hM (bC Bp) Bp.length t) (hf2 : S 1 < p + N_), ∀ (H : Heap) (locs : List Loc), va_P D vwCl [(m, .inr (4, mF r (upd (upd (upd (upd (upd g 8 a8) 9 a9) 10 x) 11 y) 22 (nI Bp.length)))), (r 1, .inl (ca 0, 38, .inl (rwN s))), (r 17, .inl (ca 0, 4001, .inl fR)), (r 18, .inl (ca 0, 4001, .inl fQ)), (r 19, .inl (ca 0, 4001, .inl fD)), (r 20, .inl (ca 0, 4001, .inl fP)), (r 21, .inl (ca 0, 4001, .inl fB)), (r 23, .inl (ca 0, 8192, .inl (rwN t)))] H → va_D A [(m, .inr (4, mF r (upd (upd (upd (upd (upd g 8 a8) 9 a9) 10 x) 11 y) 22 (nI Bp.length)))), (r 1, .inl (ca 0, 38, .inl (rwN s))), (r 17, .inl (ca 0, 4001, .inl fR)), (r 18, .inl (ca 0, 4001, .inl fQ)), (r 19, .inl (ca 0, 4001, .inl fD)), (r 20, .inl (ca 0, 4001, .inl fP)), (r 21, .inl (ca 0, 4001, .inl fB)), (r 23, .inl (ca 0, 8192, .inl (rwN t)))] → va_S A s_.heap H locs → ∀ (ls : Array Slot), lv_has ls 3 [(2, .int (nI p)), (0, .ref m), (1, .int (nI c))] → W p_ l e_ ({ frames := 3, cells := 0, slots := 0, locals := 71 }) s_ m_ ([.ref m]).toArray below_ meth_ c_ H locs 0 0 (MQ below_ (uQA D ca A (fun v W1 => v = none ∧ ∃ (fR fQ fD fP fB : Nat → Int32) (t : Nat → Nat) (a8 a9 x y : Int32), RM (BF S) fR fQ fD fP fB ∧ W1 = [(m, .inr (4, mF r (upd (upd (upd (upd (upd g 8 a8) 9 a9) 10 x) 11 y) 22 (nI ((BF S).length))))), (r 1, .inl (ca 0, 38, .inl (rwN s))), (r 17, .inl (ca 0, 4001, .inl fR)), (r 18, .inl (ca 0, 4001, .inl fQ)), (r 19, .inl (ca 0, 4001, .inl fD)), (r 20, .inl (ca 0, 4001, .inl fP)), (r 21, .inl (ca 0, 4001, .inl fB)), (r 23, .inl (ca 0, 8192, .inl (rwN t)))])) ([.ref m]).toArray s_ 0 0 A) (F0 m_ 61 ls []) := by
                  intro N_
                  induction N_ with
                  | zero => intro p d Bp fR fQ fD fP fB t a8 a9 x y hj2 hs2 hc1 hCe hOB hR hH hf2; exfalso; omega
                  | succ N_ ih61 =>
                    intro p d Bp fR fQ fD fP fB t a8 a9 x y hj2 hs2 hc1 hCe hOB hR hH hf2 H locs hP hD hS ls hl
                    refine lv_iload_n hx hb dX6_findAll_61 rfl (lv_at hl 0 rfl) ?_
                    refine lv_aload_n hx hb dX6_findAll_62 rfl (lv_at hl 1 rfl) ?_
                    refine va_get (D := D) (ci := 4) (v := .ref (r 1)) (C := RX6) (T := TX6) (N := 34) hx hb hts hinX60 hown hK.1 hP 0 rfl rfl 1 (by decide) (hts (.fieldLink RX6 7 "RenamingGridModel" "s" "[I") (List.mem_of_getElem? (i := 3) rfl)) (fun _ h9 => h9) rfl dX6_findAll_63 ?_
                    refine lv_iconst (v := nI 1) hx hb dX6_findAll_66 (by decide) ?_
                    refine n_iald (D := D) (ca := ca) (v := (nI (S 1))) hx hb hK.1 hP 1 (f := (rwN s)) rfl (by omega) (by decide) (congrArg nI (hs 1 (by decide))) dX6_findAll_67 ?_
                    refine n_ic_ge (tgt := 117) hx hb dX6_findAll_68 (by decide) (by omega) (by omega) (fun c68 => ?_) (fun c68 => ?_)
                    · obtain ⟨u2, rfl⟩ : ∃ u2, u = u2 + 1 := ⟨u - 1, by omega⟩
                      have hd0 : d = 0 := by omega
                      subst hd0
                      have hfin : Bp = exB (S 0) (S 2) c (S 1) 0 Bc := hs2
                      refine lv_iinc (v := (nI (c + 1))) (lv' := [(1, .int (nI (c + 1))), (2, .int (nI p)), (0, .ref m)]) hx hb dX6_findAll_117 hl (k := 2) rfl (show nI c + Int32.ofInt 1 = nI (c + 1) from nI_add _ 1) (by decide) rfl (fun ls hl => ?_)
                      refine lv_goto (tgt := 41) hx hb dX6_findAll_120 (by decide) ?_
                      exact ih41 (c + 1) u2 Bp fR fQ fD fP fB t a8 a9 x y (by omega) (by rw [← hs1]; symm; show (if _ then _ else _) = _; rw [if_pos ⟨c46, c56⟩, ← hfin]) (OB_next hOB) hR hH (by omega) H locs hP hD hS ls (lv_sub hl [0, 2] rfl)
                    · have hp3 : p < 3 := by omega
                      have hl4 := hOB.2.2.2.2.2.2
                      refine lv_aload_n hx hb dX6_findAll_71 rfl (lv_at hl 1 rfl) ?_
                      refine lv_aload_n hx hb dX6_findAll_72 rfl (lv_at hl 1 rfl) ?_
                      refine va_get (D := D) (ci := 4) (v := .ref (r 17)) (C := RX6) (T := TX6) (N := 34) hx hb hts hinX60 hown hK.1 hP 0 rfl rfl 17 (by decide) (hts (.fieldLink RX6 26 "RenamingGridModel" "registersOf" "[I") (List.mem_of_getElem? (i := 4) rfl)) (fun _ h9 => h9) rfl dX6_findAll_73 ?_
                      refine lv_iload_n hx hb dX6_findAll_76 rfl (lv_at hl 2 rfl) ?_
                      refine n_iald (D := D) (ca := ca) (v := (nI (regs C))) hx hb hK.1 hP 2 (f := fR) rfl (by omega) (by decide) (by rw [← hCe]; exact (hR c hc1).1) dX6_findAll_77 ?_
                      refine va_put (D := D) (ci := 4) (v := .int (nI (regs C))) (ty := tyX6 8) (C := RX6) (T := TX6) (N := 34) hx hb hts hinX60 tyX6 tyX6_ok nmX6 hown hK.1 hP hD hS 0 rfl rfl 8 (by decide) (hts (.fieldLink RX6 64 "RenamingGridModel" "registers" "I") (List.mem_of_getElem? (i := 5) rfl)) (fun _ h9 => h9) rfl (tyX6_ok 8 (by decide)) rfl rfl (Nat.le_of_ble_eq_true rfl) dX6_findAll_78 (fun H locs hP hD hS => ?_)
                      have hP : va_P D vwCl [(m, .inr (4, mF r (upd (upd (upd (upd (upd g 8 (nI (regs C))) 9 a9) 10 x) 11 y) 22 (nI Bp.length)))), (r 1, .inl (ca 0, 38, .inl (rwN s))), (r 17, .inl (ca 0, 4001, .inl fR)), (r 18, .inl (ca 0, 4001, .inl fQ)), (r 19, .inl (ca 0, 4001, .inl fD)), (r 20, .inl (ca 0, 4001, .inl fP)), (r 21, .inl (ca 0, 4001, .inl fB)), (r 23, .inl (ca 0, 8192, .inl (rwN t)))] H := hP
                      have hD : va_D A [(m, .inr (4, mF r (upd (upd (upd (upd (upd g 8 (nI (regs C))) 9 a9) 10 x) 11 y) 22 (nI Bp.length)))), (r 1, .inl (ca 0, 38, .inl (rwN s))), (r 17, .inl (ca 0, 4001, .inl fR)), (r 18, .inl (ca 0, 4001, .inl fQ)), (r 19, .inl (ca 0, 4001, .inl fD)), (r 20, .inl (ca 0, 4001, .inl fP)), (r 21, .inl (ca 0, 4001, .inl fB)), (r 23, .inl (ca 0, 8192, .inl (rwN t)))] := hD
                      refine lv_aload_n hx hb dX6_findAll_81 rfl (lv_at hl 1 rfl) ?_
                      refine lv_aload_n hx hb dX6_findAll_82 rfl (lv_at hl 1 rfl) ?_
                      refine va_get (D := D) (ci := 4) (v := .ref (r 18)) (C := RX6) (T := TX6) (N := 34) hx hb hts hinX60 hown hK.1 hP 0 rfl rfl 18 (by decide) (hts (.fieldLink RX6 29 "RenamingGridModel" "processesOf" "[I") (List.mem_of_getElem? (i := 6) rfl)) (fun _ h9 => h9) rfl dX6_findAll_83 ?_
                      refine lv_iload_n hx hb dX6_findAll_86 rfl (lv_at hl 2 rfl) ?_
                      refine n_iald (D := D) (ca := ca) (v := (nI (qn C))) hx hb hK.1 hP 3 (f := fQ) rfl (by omega) (by decide) (by rw [← hCe]; exact (hR c hc1).2.1) dX6_findAll_87 ?_
                      refine va_put (D := D) (ci := 4) (v := .int (nI (qn C))) (ty := tyX6 9) (C := RX6) (T := TX6) (N := 34) hx hb hts hinX60 tyX6 tyX6_ok nmX6 hown hK.1 hP hD hS 0 rfl rfl 9 (by decide) (hts (.fieldLink RX6 61 "RenamingGridModel" "processes" "I") (List.mem_of_getElem? (i := 7) rfl)) (fun _ h9 => h9) rfl (tyX6_ok 9 (by decide)) rfl rfl (Nat.le_of_ble_eq_true rfl) dX6_findAll_88 (fun H locs hP hD hS => ?_)
                      have hP : va_P D vwCl [(m, .inr (4, mF r (upd (upd (upd (upd (upd g 8 (nI (regs C))) 9 (nI (qn C))) 10 x) 11 y) 22 (nI Bp.length)))), (r 1, .inl (ca 0, 38, .inl (rwN s))), (r 17, .inl (ca 0, 4001, .inl fR)), (r 18, .inl (ca 0, 4001, .inl fQ)), (r 19, .inl (ca 0, 4001, .inl fD)), (r 20, .inl (ca 0, 4001, .inl fP)), (r 21, .inl (ca 0, 4001, .inl fB)), (r 23, .inl (ca 0, 8192, .inl (rwN t)))] H := hP
                      have hD : va_D A [(m, .inr (4, mF r (upd (upd (upd (upd (upd g 8 (nI (regs C))) 9 (nI (qn C))) 10 x) 11 y) 22 (nI Bp.length)))), (r 1, .inl (ca 0, 38, .inl (rwN s))), (r 17, .inl (ca 0, 4001, .inl fR)), (r 18, .inl (ca 0, 4001, .inl fQ)), (r 19, .inl (ca 0, 4001, .inl fD)), (r 20, .inl (ca 0, 4001, .inl fP)), (r 21, .inl (ca 0, 4001, .inl fB)), (r 23, .inl (ca 0, 8192, .inl (rwN t)))] := hD
                      refine lv_aload_n hx hb dX6_findAll_91 rfl (lv_at hl 1 rfl) ?_
                      refine lv_iload_n hx hb dX6_findAll_92 rfl (lv_at hl 0 rfl) ?_
                      refine rdV (nL := 3) (ci := 4) (q0 := 0) (cq := (RX6, TX6, 34)) hx hb hml hown hts hK hP [.int (nI p)] [] (c_X6_statusIn l D ca m r ((upd (upd (upd (upd (upd g 8 (nI (regs C))) 9 (nI (qn C))) 10 x) 11 y) 22 (nI Bp.length))) (qn C) rfl (qn_lt _) p hp3) gX6_findAll_X6_statusIn rfl ⟨rfl, qX6_statusIn⟩ ⟨Nat.le_of_ble_eq_true rfl, Nat.le_of_ble_eq_true rfl⟩ rfl rfl [0] rfl rfl hl.1 (Nat.le_of_ble_eq_true rfl) ⟨Nat.le_of_ble_eq_true rfl, Nat.le_of_ble_eq_true rfl⟩ dX6_findAll_93 ?_
                      rw [show (nI (gF (qn C) (8 * p) 2)) = (nI (stC C p)) from (by rw [qn_st hp3])]
                      refine n_if_ne (tgt := 111) hx hb dX6_findAll_96 (by decide) (stC_b _ _) (fun c96 => ?_) (fun c96 => ?_)
                      · refine lv_iinc (v := (nI (p + 1))) (lv' := [(2, .int (nI (p + 1))), (0, .ref m), (1, .int (nI c))]) hx hb dX6_findAll_111 hl (k := 0) rfl (show nI p + Int32.ofInt 1 = nI (p + 1) from nI_add _ 1) (by decide) rfl (fun ls hl => ?_)
                        refine lv_goto (tgt := 61) hx hb dX6_findAll_114 (by decide) ?_
                        obtain ⟨d2, rfl⟩ : ∃ d2, d = d2 + 1 := ⟨d - 1, by omega⟩
                        exact ih61 (p + 1) d2 Bp fR fQ fD fP fB t ((nI (regs C))) ((nI (qn C))) x y (by omega) (by rw [← hs2]; symm; show exB _ _ _ _ _ (if _ then _ else _) = _; rw [hCe, if_neg c96]) hc1 hCe hOB hR hH (by omega) H locs hP hD hS ls (lv_sub hl [0, 1, 2] rfl)
                      · refine lv_aload_n hx hb dX6_findAll_99 rfl (lv_at hl 1 rfl) ?_
                        refine lv_iload_n hx hb dX6_findAll_100 rfl (lv_at hl 0 rfl) ?_
                        refine uV (nL := 3) (wr := [(r 17, .inl (ca 0, 4001, .inl fR)), (r 18, .inl (ca 0, 4001, .inl fQ)), (r 19, .inl (ca 0, 4001, .inl fD)), (r 20, .inl (ca 0, 4001, .inl fP)), (r 21, .inl (ca 0, 4001, .inl fB)), (r 23, .inl (ca 0, 8192, .inl (rwN t)))]) (ci := 4) (q0 := 0) (cq := (RX6, TX6, 34)) hx hb hml hown hts hK hA hP hD hS [.int (nI p)] [] (c_X6_stepOf l D ca m r ((upd (upd (upd (upd (upd g 8 (nI (regs C))) 9 (nI (qn C))) 10 x) 11 y) 22 (nI Bp.length))) s (S 0) (S 2) C p (hs 0 (by decide)) (hs 2 (by decide)) hok.1 hok.2.2.1 hC.1 hp3 c96 (hC.2 p hp3) rfl rfl) gX6_findAll_X6_stepOf rfl ⟨rfl, qX6_stepOf⟩ ⟨Nat.le_of_ble_eq_true rfl, Nat.le_of_ble_eq_true rfl⟩ rfl rfl [0, 1] [2, 3, 4, 5, 6, 7] rfl rfl (by decide) (by decide) rfl hl.1 (Nat.le_of_ble_eq_true rfl) ⟨Nat.le_of_ble_eq_true rfl, Nat.le_of_ble_eq_true rfl⟩ dX6_findAll_101 (oneK (wsN := [(m, .inr (4, mF r (upd (upd (upd (upd (upd g 8 (nI (regs (stepC C p (S 0) (S 2))))) 9 (nI (qn (stepC C p (S 0) (S 2))))) 10 ((lfQ C p (S 0) (S 2)))) 11 ((wrQ y C p (S 0) (S 2)))) 22 (nI Bp.length)))), (r 1, .inl (ca 0, 38, .inl (rwN s))), (r 17, .inl (ca 0, 4001, .inl fR)), (r 18, .inl (ca 0, 4001, .inl fQ)), (r 19, .inl (ca 0, 4001, .inl fD)), (r 20, .inl (ca 0, 4001, .inl fP)), (r 21, .inl (ca 0, 4001, .inl fB)), (r 23, .inl (ca 0, 8192, .inl (rwN t)))]) [6, 7, 0, 1, 2, 3, 4, 5] (by decide) rfl (st1 := [.int (nI (stA C p (S 0) (S 2)))]) rfl 0 0 rfl rfl (fun H locs hP hD hS => ?_))
                        refine lv_pop hx hb dX6_findAll_104 rfl ?_
                        refine lv_aload_n hx hb dX6_findAll_105 rfl (lv_at hl 1 rfl) ?_
                        refine lv_iload_n hx hb dX6_findAll_106 rfl (lv_at hl 2 rfl) ?_
                        refine lv_iload_n hx hb dX6_findAll_107 rfl (lv_at hl 0 rfl) ?_
                        refine uV (nL := 3) (wr := [(r 1, .inl (ca 0, 38, .inl (rwN s)))]) (ci := 4) (q0 := 0) (cq := (RX6, TX6, 34)) hx hb hml hown hts hK hA hP hD hS [.int (nI c), .int (nI p)] [] (c_X6_found_n l D ca m r ((upd (upd (upd (upd (upd g 8 (nI (regs (stepC C p (S 0) (S 2))))) 9 (nI (qn (stepC C p (S 0) (S 2))))) 10 ((lfQ C p (S 0) (S 2)))) 11 ((wrQ y C p (S 0) (S 2)))) 22 (nI Bp.length))) (S 0) (stepC C p (S 0) (S 2)) rfl rfl (VC_step hC hp3 hok.1 c96) Bp fR fQ fD fP fB t hR hH hOB.2.2.2.2.2.2 hOB.2.2.2.1 hOB.1 c p hc1) gX6_findAll_X6_found rfl ⟨rfl, qX6_found⟩ ⟨Nat.le_of_ble_eq_true rfl, Nat.le_of_ble_eq_true rfl⟩ rfl rfl [0, 2, 3, 4, 5, 6, 7] [1] rfl rfl (by decide) (by decide) rfl hl.1 (Nat.le_of_ble_eq_true rfl) ⟨Nat.le_of_ble_eq_true rfl, Nat.le_of_ble_eq_true rfl⟩ dX6_findAll_108 (fun v1 W1 H locs hO hP hD hS => ?_)
                        obtain ⟨rfl, fR2, fQ2, fD2, fP2, fB2, t2, hR2, hH2, rfl⟩ := hO
                        have hP : va_P D vwCl [(m, .inr (4, mF r (upd (upd (upd (upd (upd g 8 (nI (regs (stepC C p (S 0) (S 2))))) 9 (nI (qn (stepC C p (S 0) (S 2))))) 10 ((lfQ C p (S 0) (S 2)))) 11 ((wrQ y C p (S 0) (S 2)))) 22 (nI ((pushB Bp (stepC C p (S 0) (S 2)) c p).length))))), (r 1, .inl (ca 0, 38, .inl (rwN s))), (r 17, .inl (ca 0, 4001, .inl fR2)), (r 18, .inl (ca 0, 4001, .inl fQ2)), (r 19, .inl (ca 0, 4001, .inl fD2)), (r 20, .inl (ca 0, 4001, .inl fP2)), (r 21, .inl (ca 0, 4001, .inl fB2)), (r 23, .inl (ca 0, 8192, .inl (rwN t2)))] H := hP.sub [1, 0, 2, 3, 4, 5, 6, 7] rfl
                        have hD : va_D A [(m, .inr (4, mF r (upd (upd (upd (upd (upd g 8 (nI (regs (stepC C p (S 0) (S 2))))) 9 (nI (qn (stepC C p (S 0) (S 2))))) 10 ((lfQ C p (S 0) (S 2)))) 11 ((wrQ y C p (S 0) (S 2)))) 22 (nI ((pushB Bp (stepC C p (S 0) (S 2)) c p).length))))), (r 1, .inl (ca 0, 38, .inl (rwN s))), (r 17, .inl (ca 0, 4001, .inl fR2)), (r 18, .inl (ca 0, 4001, .inl fQ2)), (r 19, .inl (ca 0, 4001, .inl fD2)), (r 20, .inl (ca 0, 4001, .inl fP2)), (r 21, .inl (ca 0, 4001, .inl fB2)), (r 23, .inl (ca 0, 8192, .inl (rwN t2)))] := hD.sub [1, 0, 2, 3, 4, 5, 6, 7] (by decide) rfl
                        refine W.eq (g2 := F0 m_ 111 ls []) rfl ?_
                        refine lv_iinc (v := (nI (p + 1))) (lv' := [(2, .int (nI (p + 1))), (0, .ref m), (1, .int (nI c))]) hx hb dX6_findAll_111 hl (k := 0) rfl (show nI p + Int32.ofInt 1 = nI (p + 1) from nI_add _ 1) (by decide) rfl (fun ls hl => ?_)
                        refine lv_goto (tgt := 61) hx hb dX6_findAll_114 (by decide) ?_
                        obtain ⟨d2, rfl⟩ : ∃ d2, d = d2 + 1 := ⟨d - 1, by omega⟩
                        exact ih61 (p + 1) d2 ((pushB Bp (stepC C p (S 0) (S 2)) c p)) fR2 fQ2 fD2 fP2 fB2 t2 ((nI (regs (stepC C p (S 0) (S 2))))) ((nI (qn (stepC C p (S 0) (S 2))))) (((lfQ C p (S 0) (S 2)))) (((wrQ y C p (S 0) (S 2)))) (by omega) (by rw [← hs2]; symm; show exB _ _ _ _ _ (if _ then _ else _) = _; rw [hCe, if_pos c96]) (Nat.lt_of_lt_of_le hc1 (push_len _ _ _ _).1) (by rw [bC_push hc1]; exact hCe) (by have := OB_push (p := p) (g := S 2) hOB hc1 hp3 hok.1 (by rw [hCe]; exact c96); rw [hCe] at this; exact this) hR2 hH2 (by omega) H locs hP hD hS ls (lv_sub hl [0, 1, 2] rfl)
                exact loop61 (S 1 + 1) 0 (S 1) Bc fR fQ fD fP fB t a8 a9 x y (by omega) rfl c46 hCd hOBc hR hH (by omega) _ _ hP hD hS ls (lv_sub hl [0, 2, 1] rfl)
        rw [hroot] at hR1 hH1 hP hD
        exact loop41 4002 0 4001 ([(S 3, 0, 9)]) fR1 fQ1 fD1 fP1 fB1 t1 ((nI (regs (S 3)))) ((nI (qn (S 3)))) ((g 10)) ((g 11)) (by omega) rfl (OB_1 (VC_S hok)) hR1 hH1 (by omega) _ _ hP hD hS ls (lv_sub hl [0, 1] rfl)
      · refine lv_aload_n hx hb dX6_findAll_9 rfl (lv_at hl 1 rfl) ?_
        refine va_get (D := D) (ci := 4) (v := .ref (r 23)) (C := RX6) (T := TX6) (N := 34) hx hb hts hinX60 hown hK.1 hP 0 rfl rfl 23 (by decide) (hts (.fieldLink RX6 41 "RenamingGridModel" "table" "[I") (List.mem_of_getElem? (i := 1) rfl)) (fun _ h9 => h9) rfl dX6_findAll_10 ?_
        refine lv_iload_n hx hb dX6_findAll_13 rfl (lv_at hl 0 rfl) ?_
        refine lv_iconst (v := nI 0) hx hb dX6_findAll_14 (by decide) ?_
        refine n_iast (D := D) (ca := ca) hx hb hK.1 hP hD hS 7 (f := (rwN ((fun j => if j < k then 0 else t j)))) rfl (by omega) (by decide) dX6_findAll_15 (fun H locs hP hD hS => ?_)
        have hP : va_P D vwCl [(m, .inr (4, mF r g)), (r 1, .inl (ca 0, 38, .inl (rwN s))), (r 17, .inl (ca 0, 4001, .inl fR)), (r 18, .inl (ca 0, 4001, .inl fQ)), (r 19, .inl (ca 0, 4001, .inl fD)), (r 20, .inl (ca 0, 4001, .inl fP)), (r 21, .inl (ca 0, 4001, .inl fB)), (r 23, .inl (ca 0, 8192, .inl (upd (rwN ((fun j => if j < k then 0 else t j))) k (nI 0))))] H := hP
        have hD : va_D A [(m, .inr (4, mF r g)), (r 1, .inl (ca 0, 38, .inl (rwN s))), (r 17, .inl (ca 0, 4001, .inl fR)), (r 18, .inl (ca 0, 4001, .inl fQ)), (r 19, .inl (ca 0, 4001, .inl fD)), (r 20, .inl (ca 0, 4001, .inl fP)), (r 21, .inl (ca 0, 4001, .inl fB)), (r 23, .inl (ca 0, 8192, .inl (upd (rwN ((fun j => if j < k then 0 else t j))) k (nI 0))))] := hD
        rw [rwN_up] at hP hD
        rw [bz_s t k] at hP hD
        refine lv_iinc (v := (nI (k + 1))) (lv' := [(1, .int (nI (k + 1))), (0, .ref m)]) hx hb dX6_findAll_16 hl (k := 0) rfl (show nI k + Int32.ofInt 1 = nI (k + 1) from nI_add _ 1) (by decide) rfl (fun ls hl => ?_)
        refine lv_goto (tgt := 2) hx hb dX6_findAll_19 (by decide) ?_
        exact ih2 (k + 1) (by omega) (by omega) H locs hP hD hS ls (lv_sub hl [0, 1] rfl)
  exact loop2 8193 0 (by omega) (by omega) _ _ hP hD hS ls (lv_sub hl [0, 1] rfl)

