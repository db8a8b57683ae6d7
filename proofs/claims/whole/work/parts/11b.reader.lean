/-! ===== the model's reader: one token ===== -/
theorem updK {g : Nat → Int32} {k : Nat} {v : Int32} (h : g k = v) : upd g k v = g := by
  funext j
  unfold upd
  split
  · rename_i e; rw [e, h]
  · rfl
theorem nI_n9 {x : Nat} (h : x < 2 ^ 20) : ¬ nI x = -9 := fun e => by
  have := (n9_m9 (x := x + 1) (by omega)).mp (by rw [n9_p (by omega)]; exact e)
  omega
theorem n9_s (x : Nat) : n9 (x + 1) = nI x := n9_p (Nat.succ_pos x)
theorem zc_sub {c : Nat} (h : 49 ≤ c) (h2 : c ≤ 256) : zI c - nI 48 = nI (c - 49) := by
  rw [zI_p (by omega), pk_sub (by omega), show c - 1 - 48 = c - 49 by omega]
theorem tok_0 {T : Nat → Nat} {L k : Nat} (h : cc T L k = 0) : nxT T L k = k ∧ tkK T L k = 0 ∧ vlV T L k = zI (cc T L k) := by
  refine ⟨if_pos h, if_pos h, ?_⟩
  unfold vlV
  rw [if_neg (fun z => z (by rw [h]; exact dd_0))]
theorem tok_2 {T : Nat → Nat} {L k : Nat} (h : cc T L k ≠ 0) (hd : dd (cc T L k) = 0) : nxT T L k = k + 1 ∧ tkK T L k = 2 ∧ vlV T L k = zI (cc T L k) := by
  refine ⟨?_, ?_, ?_⟩
  · unfold nxT; rw [if_neg h, if_neg (fun z => z hd)]
  · unfold tkK; rw [if_neg h, if_neg (fun z => z hd)]
  · unfold vlV; rw [if_neg (fun z => z hd)]
theorem tok_1 {T : Nat → Nat} {L k e : Nat} (hd : dd (cc T L k) ≠ 0) (he : e = dgE T L (L - k) k) : nxT T L k = e ∧ tkK T L k = 1 ∧ vlV T L k = n9 (num T L k) := by
  have h : cc T L k ≠ 0 := fun z => hd (by rw [z]; exact dd_0)
  refine ⟨?_, ?_, ?_⟩
  · unfold nxT; rw [if_neg h, if_pos hd, he]
  · unfold tkK; rw [if_neg h, if_pos hd]
  · unfold vlV; rw [if_pos hd]
theorem nu_1 {T : Nat → Nat} {L k e : Nat} (hk : dd (cc T L k) ≠ 0) (he0 : dd (cc T L e) = 0) (hl : k ≤ e) (h : e - k = 1) : n9 (num T L k) = zI (cc T L k) - nI 48 := by
  have h1 := dd_in hk
  have e1 : e = k + 1 := by omega
  rw [e1] at he0
  rw [zc_sub h1.1 (by omega)]
  unfold num
  rw [if_neg hk, if_pos he0, h1.2.2, n9_p (by omega), show cc T L k - 48 - 1 = cc T L k - 49 by omega]
theorem nu_2 {T : Nat → Nat} {L k e : Nat} (hk : dd (cc T L k) ≠ 0) (hdg : ∀ i, k ≤ i → i < e → dd (cc T L i) ≠ 0) (he0 : dd (cc T L e) = 0) (h : e - k = 2) (h48 : ¬ zI (cc T L k) = nI 48) (hl : k + 1 < L) : n9 (num T L k) = nI (10 * (cc T L k - 49) + T (k + 1) - 48) ∧ 49 ≤ T (k + 1) + 1 := by
  have h1 := dd_in hk
  have h2 := dd_in (hdg (k + 1) (by omega) (by omega))
  have hc := cc_p (T := T) hl
  have e2 : e = k + 2 := by omega
  rw [e2] at he0
  have h49 : cc T L k ≠ 49 := fun z => h48 ((zI_eq (by omega) (by decide)).mpr z)
  refine ⟨?_, by omega⟩
  unfold num
  rw [if_neg hk, if_neg (hdg (k + 1) (by omega) (by omega)), if_neg (fun z => by
    rcases z with z | z
    · omega
    · exact z he0), n9_s]
  congr 1
  omega
theorem nu_3 {T : Nat → Nat} {L k e : Nat} (hdg : ∀ i, k ≤ i → i < e → dd (cc T L i) ≠ 0) (hl : k < e) (h : e - k ≠ 1) (h2 : e - k ≠ 2) : n9 (num T L k) = -9 := by
  unfold num
  rw [if_neg (hdg k (by omega) (by omega)), if_neg (hdg (k + 1) (by omega) (by omega)), if_pos (Or.inr (hdg (k + 2) (by omega) (by omega)))]
  rfl
theorem nu_4 {T : Nat → Nat} {L k e : Nat} (hdg : ∀ i, k ≤ i → i < e → dd (cc T L i) ≠ 0) (h2 : e - k = 2) (h48 : zI (cc T L k) = nI 48) : n9 (num T L k) = -9 := by
  have h1 := dd_in (hdg k (by omega) (by omega))
  have h49 : cc T L k = 49 := (zI_eq (by omega) (by decide)).mp h48
  unfold num
  rw [if_neg (hdg k (by omega) (by omega)), if_neg (hdg (k + 1) (by omega) (by omega)), if_pos (Or.inl (by omega))]
  rfl

set_option maxHeartbeats 4000000 in
set_option maxRecDepth 100000 in
theorem c_X6_characterAt (l : Launch) (D : va_G) (ca : Nat → ClassId) (m : Nat) (r : Nat → Nat) (g : Nat → Int32) (L : Nat) (hg7 : g 7 = nI L) (T : Nat → Nat) (hL : L ≤ 80) (k : Nat) (hk : k < 2 ^ 31) : RD l D ca yX6_characterAt wsX6_characterAt 0 0 [(m, .inr (4, mF r g)), (r 6, .inl (ca 0, 80, .inl (rwN T)))] [.ref m, .int (nI k)] (.int ((zI (cc T L k)))) := by
  refine RD.start (cc := cX6_characterAt) (maxL := 2) (ret := (some .int)) (by decide) rfl (Nat.le_of_ble_eq_true rfl) ?_
  intro p_ e_ s_ m_ below_ meth_ c_ hx hb hml hr hlocks hown hts hP hK ls hl
  have hown : s_.vm.findClass RX6 = some m_.cls := hown
  have hl : lv_has ls 2 [(0, .ref m), (1, .int (nI k))] := hl
  have hinX60 : ∀ w ∈ wsX60, w ∈ wsX6_characterAt := fun w h => List.mem_cons_of_mem _ (List.mem_append_right _ h)
  refine lv_iload_n hx hb dX6_characterAt_0 rfl (lv_at hl 1 rfl) ?_
  refine lv_aload_n hx hb dX6_characterAt_1 rfl (lv_at hl 0 rfl) ?_
  refine va_get (D := D) (ci := 4) (v := .int (nI L)) (C := RX6) (T := TX6) (N := 34) hx hb hts hinX60 hown hK.1 hP 0 rfl rfl 7 (by decide) (hts (.fieldLink RX6 144 "RenamingGridModel" "length" "I") (List.mem_of_getElem? (i := 1) rfl)) (fun _ h9 => h9) (congrArg (fun z => some (Value.int z)) hg7) dX6_characterAt_2 ?_
  refine n_ic_ge (tgt := 17) hx hb dX6_characterAt_5 (by decide) (by omega) (by omega) (fun c5 => ?_) (fun c5 => ?_)
  · refine lv_iconst (v := -1) hx hb dX6_characterAt_17 (by decide) ?_
    exact rRetI hx hb hr hlocks (congrArg Value.int (by rw [cc_L c5]; rfl)) dX6_characterAt_18
  · refine lv_aload_n hx hb dX6_characterAt_8 rfl (lv_at hl 0 rfl) ?_
    refine va_get (D := D) (ci := 4) (v := .ref (r 6)) (C := RX6) (T := TX6) (N := 34) hx hb hts hinX60 hown hK.1 hP 0 rfl rfl 6 (by decide) (hts (.fieldLink RX6 23 "RenamingGridModel" "text" "[I") (List.mem_of_getElem? (i := 2) rfl)) (fun _ h9 => h9) rfl dX6_characterAt_9 ?_
    refine lv_iload_n hx hb dX6_characterAt_12 rfl (lv_at hl 1 rfl) ?_
    refine n_iald (D := D) (ca := ca) (v := (nI (T k))) hx hb hK.1 hP 1 (f := (rwN T)) rfl (by omega) (by decide) rfl dX6_characterAt_13 ?_
    refine lv_goto (tgt := 18) hx hb dX6_characterAt_14 (by decide) ?_
    exact rRetI hx hb hr hlocks (congrArg Value.int (by rw [cc_p c5, zI_s])) dX6_characterAt_18

set_option maxHeartbeats 4000000 in
set_option maxRecDepth 100000 in
theorem c_X6_advance (l : Launch) (D : va_G) (ca : Nat → ClassId) (m : Nat) (r : Nat → Nat) (g : Nat → Int32) (L : Nat) (hg7 : g 7 = nI L) (T : Nat → Nat) (hL : L ≤ 80) (hT : ∀ i, T i ≤ 255) (j : Nat) (hg12 : g 12 = nI j) (hj : j ≤ L) : UP l D ca yX6_advance wsX6_advance 1 22 0 0 [(m, .inr (4, mF r g)), (r 6, .inl (ca 0, 80, .inl (rwN T)))] [.ref m] (one none [(m, .inr (4, mF r (upd (upd (upd (upd g 12 (nI (nxT T L (skN T L j)))) 13 (nI (skN T L j))) 14 (nI (tkK T L (skN T L j)))) 15 ((vlV T L (skN T L j)))))), (r 6, .inl (ca 0, 80, .inl (rwN T)))]) := by
  refine UP.start (cc := cX6_advance) (maxL := 3) (ret := none) (by decide) rfl (Nat.le_of_ble_eq_true rfl) ?_
  intro p_ e_ s_ m_ below_ meth_ c_ A hx hb hml hr hlocks hin hown hts hK hA hP hD hS ls hl
  have hown : s_.vm.findClass RX6 = some m_.cls := hown
  have hl : lv_has ls 3 [(0, .ref m)] := hl
  have hinX60 : ∀ w ∈ wsX60, w ∈ wsX6_advance := fun w h => List.mem_cons_of_mem _ (List.mem_append_right _ h)
  rw [← updK hg12] at hP hD
  have loop0 : ∀ (N_ : Nat) (k : Nat) (hjk : j ≤ k) (hkL : k ≤ L) (hsp : ∀ i, j ≤ i → i < k → cc T L i = 33) (hf : L < k + N_), ∀ (H : Heap) (locs : List Loc), va_P D vwCl [(m, .inr (4, mF r (upd g 12 (nI k)))), (r 6, .inl (ca 0, 80, .inl (rwN T)))] H → va_D A [(m, .inr (4, mF r (upd g 12 (nI k)))), (r 6, .inl (ca 0, 80, .inl (rwN T)))] → va_S A s_.heap H locs → ∀ (ls : Array Slot), lv_has ls 3 [(0, .ref m)] → W p_ l e_ ({ frames := 1, cells := 0, slots := 0, locals := 22 }) s_ m_ ([.ref m]).toArray below_ meth_ c_ H locs 0 0 (MQ below_ (uQA D ca A (one none [(m, .inr (4, mF r (upd (upd (upd (upd g 12 (nI (nxT T L (skN T L j)))) 13 (nI (skN T L j))) 14 (nI (tkK T L (skN T L j)))) 15 ((vlV T L (skN T L j)))))), (r 6, .inl (ca 0, 80, .inl (rwN T)))])) ([.ref m]).toArray s_ 0 0 A) (F0 m_ 0 ls []) := by
    intro N_
    induction N_ with
    | zero => intro k hjk hkL hsp hf; exfalso; omega
    | succ N_ ih0 =>
      intro k hjk hkL hsp hf H locs hP hD hS ls hl
      refine lv_aload_n hx hb dX6_advance_0 rfl (lv_at hl 0 rfl) ?_
      refine lv_aload_n hx hb dX6_advance_1 rfl (lv_at hl 0 rfl) ?_
      refine va_get (D := D) (ci := 4) (v := .int (nI k)) (C := RX6) (T := TX6) (N := 34) hx hb hts hinX60 hown hK.1 hP 0 rfl rfl 12 (by decide) (hts (.fieldLink RX6 147 "RenamingGridModel" "next" "I") (List.mem_of_getElem? (i := 1) rfl)) (fun _ h9 => h9) rfl dX6_advance_2 ?_
      refine rdV (nL := 3) (ci := 4) (q0 := 0) (cq := (RX6, TX6, 34)) hx hb hml hown hts hK hP [.int (nI k)] [] (c_X6_characterAt l D ca m r ((upd g 12 (nI k))) L hg7 T hL k (by omega)) gX6_advance_X6_characterAt rfl ⟨rfl, qX6_characterAt⟩ ⟨Nat.le_of_ble_eq_true rfl, Nat.le_of_ble_eq_true rfl⟩ rfl rfl [0, 1] rfl rfl hl.1 (Nat.le_of_ble_eq_true rfl) ⟨Nat.le_of_ble_eq_true rfl, Nat.le_of_ble_eq_true rfl⟩ dX6_advance_5 ?_
      refine lv_bipush (v := nI 32) hx hb dX6_advance_8 (by decide) ?_
      refine lv_icmp_ne (tgt := 26) hx hb dX6_advance_10 (by decide) (fun c10 => ?_) (fun c10 => ?_)
      · have hkn : k = skN T L j := sk_u hj hjk hsp (fun z => c10 ((zI_eq (by have := cc_le hT L k; omega) (by decide)).mpr z))
        have hc256 := cc_le hT L k
        refine lv_aload_n hx hb dX6_advance_26 rfl (lv_at hl 0 rfl) ?_
        refine lv_aload_n hx hb dX6_advance_27 rfl (lv_at hl 0 rfl) ?_
        refine va_get (D := D) (ci := 4) (v := .int (nI k)) (C := RX6) (T := TX6) (N := 34) hx hb hts hinX60 hown hK.1 hP 0 rfl rfl 12 (by decide) (hts (.fieldLink RX6 147 "RenamingGridModel" "next" "I") (List.mem_of_getElem? (i := 1) rfl)) (fun _ h9 => h9) rfl dX6_advance_28 ?_
        refine va_put (D := D) (ci := 4) (v := .int (nI k)) (ty := tyX6 13) (C := RX6) (T := TX6) (N := 34) hx hb hts hinX60 tyX6 tyX6_ok nmX6 hown hK.1 hP hD hS 0 rfl rfl 13 (by decide) (hts (.fieldLink RX6 153 "RenamingGridModel" "start" "I") (List.mem_of_getElem? (i := 2) rfl)) (fun _ h9 => h9) rfl (tyX6_ok 13 (by decide)) rfl rfl (Nat.le_of_ble_eq_true rfl) dX6_advance_31 (fun H locs hP hD hS => ?_)
        have hP : va_P D vwCl [(m, .inr (4, mF r (upd (upd g 12 (nI k)) 13 (nI k)))), (r 6, .inl (ca 0, 80, .inl (rwN T)))] H := hP
        have hD : va_D A [(m, .inr (4, mF r (upd (upd g 12 (nI k)) 13 (nI k)))), (r 6, .inl (ca 0, 80, .inl (rwN T)))] := hD
        refine lv_aload_n hx hb dX6_advance_34 rfl (lv_at hl 0 rfl) ?_
        refine lv_aload_n hx hb dX6_advance_35 rfl (lv_at hl 0 rfl) ?_
        refine va_get (D := D) (ci := 4) (v := .int (nI k)) (C := RX6) (T := TX6) (N := 34) hx hb hts hinX60 hown hK.1 hP 0 rfl rfl 12 (by decide) (hts (.fieldLink RX6 147 "RenamingGridModel" "next" "I") (List.mem_of_getElem? (i := 1) rfl)) (fun _ h9 => h9) rfl dX6_advance_36 ?_
        refine rdV (nL := 3) (ci := 4) (q0 := 0) (cq := (RX6, TX6, 34)) hx hb hml hown hts hK hP [.int (nI k)] [] (c_X6_characterAt l D ca m r ((upd (upd g 12 (nI k)) 13 (nI k))) L hg7 T hL k (by omega)) gX6_advance_X6_characterAt rfl ⟨rfl, qX6_characterAt⟩ ⟨Nat.le_of_ble_eq_true rfl, Nat.le_of_ble_eq_true rfl⟩ rfl rfl [0, 1] rfl rfl hl.1 (Nat.le_of_ble_eq_true rfl) ⟨Nat.le_of_ble_eq_true rfl, Nat.le_of_ble_eq_true rfl⟩ dX6_advance_39 ?_
        refine lv_istore_n (lv' := [(1, .int ((zI (cc T L k)))), (0, .ref m)]) hx hb dX6_advance_42 rfl hl (by decide) rfl (fun ls hl => ?_)
        refine lv_aload_n hx hb dX6_advance_43 rfl (lv_at hl 1 rfl) ?_
        refine lv_iload_n hx hb dX6_advance_44 rfl (lv_at hl 0 rfl) ?_
        refine va_put (D := D) (ci := 4) (v := .int ((zI (cc T L k)))) (ty := tyX6 15) (C := RX6) (T := TX6) (N := 34) hx hb hts hinX60 tyX6 tyX6_ok nmX6 hown hK.1 hP hD hS 0 rfl rfl 15 (by decide) (hts (.fieldLink RX6 156 "RenamingGridModel" "value" "I") (List.mem_of_getElem? (i := 3) rfl)) (fun _ h9 => h9) rfl (tyX6_ok 15 (by decide)) rfl rfl (Nat.le_of_ble_eq_true rfl) dX6_advance_45 (fun H locs hP hD hS => ?_)
        have hP : va_P D vwCl [(m, .inr (4, mF r (upd (upd (upd g 12 (nI k)) 13 (nI k)) 15 ((zI (cc T L k)))))), (r 6, .inl (ca 0, 80, .inl (rwN T)))] H := hP
        have hD : va_D A [(m, .inr (4, mF r (upd (upd (upd g 12 (nI k)) 13 (nI k)) 15 ((zI (cc T L k)))))), (r 6, .inl (ca 0, 80, .inl (rwN T)))] := hD
        refine lv_iload_n hx hb dX6_advance_48 rfl (lv_at hl 0 rfl) ?_
        refine lv_if_ge (tgt := 60) hx hb dX6_advance_49 (by decide) (fun c49 => ?_) (fun c49 => ?_)
        · have hc0 : cc T L k ≠ 0 := (zI_ge (by omega)).mp c49
          refine lv_iload_n hx hb dX6_advance_60 rfl (lv_at hl 0 rfl) ?_
          refine lv_bipush (v := nI 48) hx hb dX6_advance_61 (by decide) ?_
          refine lv_bipush (v := nI 57) hx hb dX6_advance_63 (by decide) ?_
          refine rdS (nL := 3) hx hb hml hown hts hK hP [.int ((zI (cc T L k))), .int (nI 48), .int (nI 57)] [] (c_X6_in l D ca ((zI (cc T L k))) (nI 48) (nI 57)) gX6_advance_X6_in rfl qX6_in ⟨Nat.le_of_ble_eq_true rfl, Nat.le_of_ble_eq_true rfl⟩ [] rfl rfl hl.1 (Nat.le_of_ble_eq_true rfl) ⟨Nat.le_of_ble_eq_true rfl, Nat.le_of_ble_eq_true rfl⟩ dX6_advance_65 ?_
          refine n_if_eq (tgt := 203) hx hb dX6_advance_68 (by decide) (bN_b _) (fun c68 => ?_) (fun c68 => ?_)
          · rw [bN_0] at c68
            have hdk : dd (cc T L k) = 0 := Nat.eq_zero_of_not_pos (fun z => c68 ((dgR hc256).mpr (by omega)))
            have tk := tok_2 hc0 hdk
            refine lv_aload_n hx hb dX6_advance_203 rfl (lv_at hl 1 rfl) ?_
            refine lv_dup hx hb dX6_advance_204 rfl ?_
            refine va_get (D := D) (ci := 4) (v := .int (nI k)) (C := RX6) (T := TX6) (N := 34) hx hb hts hinX60 hown hK.1 hP 0 rfl rfl 12 (by decide) (hts (.fieldLink RX6 147 "RenamingGridModel" "next" "I") (List.mem_of_getElem? (i := 1) rfl)) (fun _ h9 => h9) rfl dX6_advance_205 ?_
            refine lv_iconst (v := nI 1) hx hb dX6_advance_208 (by decide) ?_
            refine n_iadd hx hb dX6_advance_209 ?_
            refine va_put (D := D) (ci := 4) (v := .int (nI (k + 1))) (ty := tyX6 12) (C := RX6) (T := TX6) (N := 34) hx hb hts hinX60 tyX6 tyX6_ok nmX6 hown hK.1 hP hD hS 0 rfl rfl 12 (by decide) (hts (.fieldLink RX6 147 "RenamingGridModel" "next" "I") (List.mem_of_getElem? (i := 1) rfl)) (fun _ h9 => h9) rfl (tyX6_ok 12 (by decide)) rfl rfl (Nat.le_of_ble_eq_true rfl) dX6_advance_210 (fun H locs hP hD hS => ?_)
            have hP : va_P D vwCl [(m, .inr (4, mF r (upd (upd (upd g 12 (nI (k + 1))) 13 (nI k)) 15 ((zI (cc T L k)))))), (r 6, .inl (ca 0, 80, .inl (rwN T)))] H := hP
            have hD : va_D A [(m, .inr (4, mF r (upd (upd (upd g 12 (nI (k + 1))) 13 (nI k)) 15 ((zI (cc T L k)))))), (r 6, .inl (ca 0, 80, .inl (rwN T)))] := hD
            refine lv_aload_n hx hb dX6_advance_213 rfl (lv_at hl 1 rfl) ?_
            refine lv_iconst (v := nI 2) hx hb dX6_advance_214 (by decide) ?_
            refine va_put (D := D) (ci := 4) (v := .int (nI 2)) (ty := tyX6 14) (C := RX6) (T := TX6) (N := 34) hx hb hts hinX60 tyX6 tyX6_ok nmX6 hown hK.1 hP hD hS 0 rfl rfl 14 (by decide) (hts (.fieldLink RX6 159 "RenamingGridModel" "token" "I") (List.mem_of_getElem? (i := 4) rfl)) (fun _ h9 => h9) rfl (tyX6_ok 14 (by decide)) rfl rfl (Nat.le_of_ble_eq_true rfl) dX6_advance_215 (fun H locs hP hD hS => ?_)
            have hP : va_P D vwCl [(m, .inr (4, mF r (upd (upd (upd (upd g 12 (nI (k + 1))) 13 (nI k)) 14 (nI 2)) 15 ((zI (cc T L k)))))), (r 6, .inl (ca 0, 80, .inl (rwN T)))] H := hP
            have hD : va_D A [(m, .inr (4, mF r (upd (upd (upd (upd g 12 (nI (k + 1))) 13 (nI k)) 14 (nI 2)) 15 ((zI (cc T L k)))))), (r 6, .inl (ca 0, 80, .inl (rwN T)))] := hD
            exact uRetV hx hb hr hlocks hK hP hD hS ⟨rfl, by rw [← hkn, tk.1, tk.2.1, tk.2.2]⟩ (Nat.le_of_ble_eq_true rfl) (Nat.le_of_ble_eq_true rfl) dX6_advance_218
          · rw [bN_1] at c68
            have hdk : dd (cc T L k) ≠ 0 := (dgR hc256).mp c68
            have loop71 : ∀ (N_ : Nat) (e : Nat) (hke : k ≤ e) (heL : e ≤ L) (hdg : ∀ i, k ≤ i → i < e → dd (cc T L i) ≠ 0) (hf2 : L < e + N_), ∀ (H : Heap) (locs : List Loc), va_P D vwCl [(m, .inr (4, mF r (upd (upd (upd g 12 (nI e)) 13 (nI k)) 15 ((zI (cc T L k)))))), (r 6, .inl (ca 0, 80, .inl (rwN T)))] H → va_D A [(m, .inr (4, mF r (upd (upd (upd g 12 (nI e)) 13 (nI k)) 15 ((zI (cc T L k)))))), (r 6, .inl (ca 0, 80, .inl (rwN T)))] → va_S A s_.heap H locs → ∀ (ls : Array Slot), lv_has ls 3 [(0, .ref m), (1, .int ((zI (cc T L k))))] → W p_ l e_ ({ frames := 1, cells := 0, slots := 0, locals := 22 }) s_ m_ ([.ref m]).toArray below_ meth_ c_ H locs 0 0 (MQ below_ (uQA D ca A (one none [(m, .inr (4, mF r (upd (upd (upd (upd g 12 (nI (nxT T L (skN T L j)))) 13 (nI (skN T L j))) 14 (nI (tkK T L (skN T L j)))) 15 ((vlV T L (skN T L j)))))), (r 6, .inl (ca 0, 80, .inl (rwN T)))])) ([.ref m]).toArray s_ 0 0 A) (F0 m_ 71 ls []) := by
              intro N_
              induction N_ with
              | zero => intro e hke heL hdg hf2; exfalso; omega
              | succ N_ ih71 =>
                intro e hke heL hdg hf2 H locs hP hD hS ls hl
                refine lv_aload_n hx hb dX6_advance_71 rfl (lv_at hl 0 rfl) ?_
                refine lv_aload_n hx hb dX6_advance_72 rfl (lv_at hl 0 rfl) ?_
                refine va_get (D := D) (ci := 4) (v := .int (nI e)) (C := RX6) (T := TX6) (N := 34) hx hb hts hinX60 hown hK.1 hP 0 rfl rfl 12 (by decide) (hts (.fieldLink RX6 147 "RenamingGridModel" "next" "I") (List.mem_of_getElem? (i := 1) rfl)) (fun _ h9 => h9) rfl dX6_advance_73 ?_
                refine rdV (nL := 3) (ci := 4) (q0 := 0) (cq := (RX6, TX6, 34)) hx hb hml hown hts hK hP [.int (nI e)] [] (c_X6_characterAt l D ca m r ((upd (upd (upd g 12 (nI e)) 13 (nI k)) 15 ((zI (cc T L k))))) L hg7 T hL e (by omega)) gX6_advance_X6_characterAt rfl ⟨rfl, qX6_characterAt⟩ ⟨Nat.le_of_ble_eq_true rfl, Nat.le_of_ble_eq_true rfl⟩ rfl rfl [0, 1] rfl rfl hl.1 (Nat.le_of_ble_eq_true rfl) ⟨Nat.le_of_ble_eq_true rfl, Nat.le_of_ble_eq_true rfl⟩ dX6_advance_76 ?_
                refine lv_bipush (v := nI 48) hx hb dX6_advance_79 (by decide) ?_
                refine lv_bipush (v := nI 57) hx hb dX6_advance_81 (by decide) ?_
                refine rdS (nL := 3) hx hb hml hown hts hK hP [.int ((zI (cc T L e))), .int (nI 48), .int (nI 57)] [] (c_X6_in l D ca ((zI (cc T L e))) (nI 48) (nI 57)) gX6_advance_X6_in rfl qX6_in ⟨Nat.le_of_ble_eq_true rfl, Nat.le_of_ble_eq_true rfl⟩ [] rfl rfl hl.1 (Nat.le_of_ble_eq_true rfl) ⟨Nat.le_of_ble_eq_true rfl, Nat.le_of_ble_eq_true rfl⟩ dX6_advance_83 ?_
                refine n_if_eq (tgt := 102) hx hb dX6_advance_86 (by decide) (bN_b _) (fun c86 => ?_) (fun c86 => ?_)
                · rw [bN_0] at c86
                  have hd0 : dd (cc T L e) = 0 := Nat.eq_zero_of_not_pos (fun z => c86 ((dgR (cc_le hT L e)).mpr (by omega)))
                  have hen : e = dgE T L (L - k) k := dg_u hkL hke hdg hd0
                  have hke2 : k < e := by rcases Nat.lt_or_ge k e with q | q; exact q; exact absurd (show dd (cc T L k) = 0 from (show e = k by omega) ▸ hd0) hdk
                  have tk := tok_1 hdk hen
                  refine lv_aload_n hx hb dX6_advance_102 rfl (lv_at hl 0 rfl) ?_
                  refine lv_iconst (v := nI 1) hx hb dX6_advance_103 (by decide) ?_
                  refine va_put (D := D) (ci := 4) (v := .int (nI 1)) (ty := tyX6 14) (C := RX6) (T := TX6) (N := 34) hx hb hts hinX60 tyX6 tyX6_ok nmX6 hown hK.1 hP hD hS 0 rfl rfl 14 (by decide) (hts (.fieldLink RX6 159 "RenamingGridModel" "token" "I") (List.mem_of_getElem? (i := 4) rfl)) (fun _ h9 => h9) rfl (tyX6_ok 14 (by decide)) rfl rfl (Nat.le_of_ble_eq_true rfl) dX6_advance_104 (fun H locs hP hD hS => ?_)
                  have hP : va_P D vwCl [(m, .inr (4, mF r (upd (upd (upd (upd g 12 (nI e)) 13 (nI k)) 14 (nI 1)) 15 ((zI (cc T L k)))))), (r 6, .inl (ca 0, 80, .inl (rwN T)))] H := hP
                  have hD : va_D A [(m, .inr (4, mF r (upd (upd (upd (upd g 12 (nI e)) 13 (nI k)) 14 (nI 1)) 15 ((zI (cc T L k)))))), (r 6, .inl (ca 0, 80, .inl (rwN T)))] := hD
                  refine lv_aload_n hx hb dX6_advance_107 rfl (lv_at hl 0 rfl) ?_
                  refine va_get (D := D) (ci := 4) (v := .int (nI e)) (C := RX6) (T := TX6) (N := 34) hx hb hts hinX60 hown hK.1 hP 0 rfl rfl 12 (by decide) (hts (.fieldLink RX6 147 "RenamingGridModel" "next" "I") (List.mem_of_getElem? (i := 1) rfl)) (fun _ h9 => h9) rfl dX6_advance_108 ?_
                  refine lv_aload_n hx hb dX6_advance_111 rfl (lv_at hl 0 rfl) ?_
                  refine va_get (D := D) (ci := 4) (v := .int (nI k)) (C := RX6) (T := TX6) (N := 34) hx hb hts hinX60 hown hK.1 hP 0 rfl rfl 13 (by decide) (hts (.fieldLink RX6 153 "RenamingGridModel" "start" "I") (List.mem_of_getElem? (i := 2) rfl)) (fun _ h9 => h9) rfl dX6_advance_112 ?_
                  refine n_isub hx hb (by omega) dX6_advance_115 ?_
                  refine lv_iconst (v := nI 1) hx hb dX6_advance_116 (by decide) ?_
                  refine n_ic_eq (tgt := 139) hx hb dX6_advance_117 (by decide) (by omega) (by decide) (fun c117 => ?_) (fun c117 => ?_)
                  · refine lv_iconst (v := nI 1) hx hb dX6_advance_139 (by decide) ?_
                    refine lv_goto (tgt := 144) hx hb dX6_advance_140 (by decide) ?_
                    refine lv_istore_n (lv' := [(2, .int (nI 1)), (0, .ref m), (1, .int ((zI (cc T L k))))]) hx hb dX6_advance_144 rfl hl (by decide) rfl (fun ls hl => ?_)
                    refine lv_aload_n hx hb dX6_advance_145 rfl (lv_at hl 1 rfl) ?_
                    refine lv_iload_n hx hb dX6_advance_146 rfl (lv_at hl 0 rfl) ?_
                    refine n_if_ne (tgt := 155) hx hb dX6_advance_147 (by decide) (by decide) (fun _ => ?_) (fun q => absurd q (by decide))
                    refine lv_aload_n hx hb dX6_advance_155 rfl (lv_at hl 1 rfl) ?_
                    refine va_get (D := D) (ci := 4) (v := .int (nI e)) (C := RX6) (T := TX6) (N := 34) hx hb hts hinX60 hown hK.1 hP 0 rfl rfl 12 (by decide) (hts (.fieldLink RX6 147 "RenamingGridModel" "next" "I") (List.mem_of_getElem? (i := 1) rfl)) (fun _ h9 => h9) rfl dX6_advance_156 ?_
                    refine lv_aload_n hx hb dX6_advance_159 rfl (lv_at hl 1 rfl) ?_
                    refine va_get (D := D) (ci := 4) (v := .int (nI k)) (C := RX6) (T := TX6) (N := 34) hx hb hts hinX60 hown hK.1 hP 0 rfl rfl 13 (by decide) (hts (.fieldLink RX6 153 "RenamingGridModel" "start" "I") (List.mem_of_getElem? (i := 2) rfl)) (fun _ h9 => h9) rfl dX6_advance_160 ?_
                    refine n_isub hx hb (by omega) dX6_advance_163 ?_
                    refine lv_iconst (v := nI 1) hx hb dX6_advance_164 (by decide) ?_
                    refine n_ic_ne (tgt := 175) hx hb dX6_advance_165 (by decide) (by omega) (by decide) (fun c165 => absurd c165 (by omega)) (fun c165 => ?_)
                    refine lv_iload_n hx hb dX6_advance_168 rfl (lv_at hl 2 rfl) ?_
                    refine lv_bipush (v := nI 48) hx hb dX6_advance_169 (by decide) ?_
                    refine lv_isub hx hb dX6_advance_171 ?_
                    refine lv_goto (tgt := 197) hx hb dX6_advance_172 (by decide) ?_
                    refine va_put (D := D) (ci := 4) (v := .int ((((zI (cc T L k))) - (nI 48)))) (ty := tyX6 15) (C := RX6) (T := TX6) (N := 34) hx hb hts hinX60 tyX6 tyX6_ok nmX6 hown hK.1 hP hD hS 0 rfl rfl 15 (by decide) (hts (.fieldLink RX6 156 "RenamingGridModel" "value" "I") (List.mem_of_getElem? (i := 3) rfl)) (fun _ h9 => h9) rfl (tyX6_ok 15 (by decide)) rfl rfl (Nat.le_of_ble_eq_true rfl) dX6_advance_197 (fun H locs hP hD hS => ?_)
                    have hP : va_P D vwCl [(m, .inr (4, mF r (upd (upd (upd (upd g 12 (nI e)) 13 (nI k)) 14 (nI 1)) 15 ((((zI (cc T L k))) - (nI 48)))))), (r 6, .inl (ca 0, 80, .inl (rwN T)))] H := hP
                    have hD : va_D A [(m, .inr (4, mF r (upd (upd (upd (upd g 12 (nI e)) 13 (nI k)) 14 (nI 1)) 15 ((((zI (cc T L k))) - (nI 48)))))), (r 6, .inl (ca 0, 80, .inl (rwN T)))] := hD
                    refine lv_goto (tgt := 218) hx hb dX6_advance_200 (by decide) ?_
                    exact uRetV hx hb hr hlocks hK hP hD hS ⟨rfl, by rw [← hkn, tk.1, tk.2.1, tk.2.2, nu_1 hdk hd0 hke (by omega)]⟩ (Nat.le_of_ble_eq_true rfl) (Nat.le_of_ble_eq_true rfl) dX6_advance_218
                  · refine lv_aload_n hx hb dX6_advance_120 rfl (lv_at hl 0 rfl) ?_
                    refine va_get (D := D) (ci := 4) (v := .int (nI e)) (C := RX6) (T := TX6) (N := 34) hx hb hts hinX60 hown hK.1 hP 0 rfl rfl 12 (by decide) (hts (.fieldLink RX6 147 "RenamingGridModel" "next" "I") (List.mem_of_getElem? (i := 1) rfl)) (fun _ h9 => h9) rfl dX6_advance_121 ?_
                    refine lv_aload_n hx hb dX6_advance_124 rfl (lv_at hl 0 rfl) ?_
                    refine va_get (D := D) (ci := 4) (v := .int (nI k)) (C := RX6) (T := TX6) (N := 34) hx hb hts hinX60 hown hK.1 hP 0 rfl rfl 13 (by decide) (hts (.fieldLink RX6 153 "RenamingGridModel" "start" "I") (List.mem_of_getElem? (i := 2) rfl)) (fun _ h9 => h9) rfl dX6_advance_125 ?_
                    refine n_isub hx hb (by omega) dX6_advance_128 ?_
                    refine lv_iconst (v := nI 2) hx hb dX6_advance_129 (by decide) ?_
                    refine n_ic_ne (tgt := 143) hx hb dX6_advance_130 (by decide) (by omega) (by decide) (fun c130 => ?_) (fun c130 => ?_)
                    · refine lv_iconst (v := nI 0) hx hb dX6_advance_143 (by decide) ?_
                      refine lv_istore_n (lv' := [(2, .int (nI 0)), (0, .ref m), (1, .int ((zI (cc T L k))))]) hx hb dX6_advance_144 rfl hl (by decide) rfl (fun ls hl => ?_)
                      refine lv_aload_n hx hb dX6_advance_145 rfl (lv_at hl 1 rfl) ?_
                      refine lv_iload_n hx hb dX6_advance_146 rfl (lv_at hl 0 rfl) ?_
                      refine n_if_ne (tgt := 155) hx hb dX6_advance_147 (by decide) (by decide) (fun q => absurd q (by decide)) (fun _ => ?_)
                      refine lv_bipush (v := -9) hx hb dX6_advance_150 (by decide) ?_
                      refine lv_goto (tgt := 197) hx hb dX6_advance_152 (by decide) ?_
                      refine va_put (D := D) (ci := 4) (v := .int ((-9))) (ty := tyX6 15) (C := RX6) (T := TX6) (N := 34) hx hb hts hinX60 tyX6 tyX6_ok nmX6 hown hK.1 hP hD hS 0 rfl rfl 15 (by decide) (hts (.fieldLink RX6 156 "RenamingGridModel" "value" "I") (List.mem_of_getElem? (i := 3) rfl)) (fun _ h9 => h9) rfl (tyX6_ok 15 (by decide)) rfl rfl (Nat.le_of_ble_eq_true rfl) dX6_advance_197 (fun H locs hP hD hS => ?_)
                      have hP : va_P D vwCl [(m, .inr (4, mF r (upd (upd (upd (upd g 12 (nI e)) 13 (nI k)) 14 (nI 1)) 15 ((-9))))), (r 6, .inl (ca 0, 80, .inl (rwN T)))] H := hP
                      have hD : va_D A [(m, .inr (4, mF r (upd (upd (upd (upd g 12 (nI e)) 13 (nI k)) 14 (nI 1)) 15 ((-9))))), (r 6, .inl (ca 0, 80, .inl (rwN T)))] := hD
                      refine lv_goto (tgt := 218) hx hb dX6_advance_200 (by decide) ?_
                      exact uRetV hx hb hr hlocks hK hP hD hS ⟨rfl, by rw [← hkn, tk.1, tk.2.1, tk.2.2, nu_3 hdg hke2 (by omega) (by omega)]⟩ (Nat.le_of_ble_eq_true rfl) (Nat.le_of_ble_eq_true rfl) dX6_advance_218
                    · refine lv_iload_n hx hb dX6_advance_133 rfl (lv_at hl 1 rfl) ?_
                      refine lv_bipush (v := nI 48) hx hb dX6_advance_134 (by decide) ?_
                      refine lv_icmp_eq (tgt := 143) hx hb dX6_advance_136 (by decide) (fun c136 => ?_) (fun c136 => ?_)
                      · refine lv_iconst (v := nI 0) hx hb dX6_advance_143 (by decide) ?_
                        refine lv_istore_n (lv' := [(2, .int (nI 0)), (0, .ref m), (1, .int ((zI (cc T L k))))]) hx hb dX6_advance_144 rfl hl (by decide) rfl (fun ls hl => ?_)
                        refine lv_aload_n hx hb dX6_advance_145 rfl (lv_at hl 1 rfl) ?_
                        refine lv_iload_n hx hb dX6_advance_146 rfl (lv_at hl 0 rfl) ?_
                        refine n_if_ne (tgt := 155) hx hb dX6_advance_147 (by decide) (by decide) (fun q => absurd q (by decide)) (fun _ => ?_)
                        refine lv_bipush (v := -9) hx hb dX6_advance_150 (by decide) ?_
                        refine lv_goto (tgt := 197) hx hb dX6_advance_152 (by decide) ?_
                        refine va_put (D := D) (ci := 4) (v := .int ((-9))) (ty := tyX6 15) (C := RX6) (T := TX6) (N := 34) hx hb hts hinX60 tyX6 tyX6_ok nmX6 hown hK.1 hP hD hS 0 rfl rfl 15 (by decide) (hts (.fieldLink RX6 156 "RenamingGridModel" "value" "I") (List.mem_of_getElem? (i := 3) rfl)) (fun _ h9 => h9) rfl (tyX6_ok 15 (by decide)) rfl rfl (Nat.le_of_ble_eq_true rfl) dX6_advance_197 (fun H locs hP hD hS => ?_)
                        have hP : va_P D vwCl [(m, .inr (4, mF r (upd (upd (upd (upd g 12 (nI e)) 13 (nI k)) 14 (nI 1)) 15 ((-9))))), (r 6, .inl (ca 0, 80, .inl (rwN T)))] H := hP
                        have hD : va_D A [(m, .inr (4, mF r (upd (upd (upd (upd g 12 (nI e)) 13 (nI k)) 14 (nI 1)) 15 ((-9))))), (r 6, .inl (ca 0, 80, .inl (rwN T)))] := hD
                        refine lv_goto (tgt := 218) hx hb dX6_advance_200 (by decide) ?_
                        exact uRetV hx hb hr hlocks hK hP hD hS ⟨rfl, by rw [← hkn, tk.1, tk.2.1, tk.2.2, nu_4 hdg (by omega) c136]⟩ (Nat.le_of_ble_eq_true rfl) (Nat.le_of_ble_eq_true rfl) dX6_advance_218
                      · refine lv_iconst (v := nI 1) hx hb dX6_advance_139 (by decide) ?_
                        refine lv_goto (tgt := 144) hx hb dX6_advance_140 (by decide) ?_
                        refine lv_istore_n (lv' := [(2, .int (nI 1)), (0, .ref m), (1, .int ((zI (cc T L k))))]) hx hb dX6_advance_144 rfl hl (by decide) rfl (fun ls hl => ?_)
                        refine lv_aload_n hx hb dX6_advance_145 rfl (lv_at hl 1 rfl) ?_
                        refine lv_iload_n hx hb dX6_advance_146 rfl (lv_at hl 0 rfl) ?_
                        refine n_if_ne (tgt := 155) hx hb dX6_advance_147 (by decide) (by decide) (fun _ => ?_) (fun q => absurd q (by decide))
                        have nu := nu_2 hdk hdg hd0 (by omega) c136 (by omega)
                        refine lv_aload_n hx hb dX6_advance_155 rfl (lv_at hl 1 rfl) ?_
                        refine va_get (D := D) (ci := 4) (v := .int (nI e)) (C := RX6) (T := TX6) (N := 34) hx hb hts hinX60 hown hK.1 hP 0 rfl rfl 12 (by decide) (hts (.fieldLink RX6 147 "RenamingGridModel" "next" "I") (List.mem_of_getElem? (i := 1) rfl)) (fun _ h9 => h9) rfl dX6_advance_156 ?_
                        refine lv_aload_n hx hb dX6_advance_159 rfl (lv_at hl 1 rfl) ?_
                        refine va_get (D := D) (ci := 4) (v := .int (nI k)) (C := RX6) (T := TX6) (N := 34) hx hb hts hinX60 hown hK.1 hP 0 rfl rfl 13 (by decide) (hts (.fieldLink RX6 153 "RenamingGridModel" "start" "I") (List.mem_of_getElem? (i := 2) rfl)) (fun _ h9 => h9) rfl dX6_advance_160 ?_
                        refine n_isub hx hb (by omega) dX6_advance_163 ?_
                        refine lv_iconst (v := nI 1) hx hb dX6_advance_164 (by decide) ?_
                        refine n_ic_ne (tgt := 175) hx hb dX6_advance_165 (by decide) (by omega) (by decide) (fun c165 => ?_) (fun c165 => absurd c165 (by omega))
                        refine lv_bipush (v := nI 10) hx hb dX6_advance_175 (by decide) ?_
                        refine lv_iload_n hx hb dX6_advance_177 rfl (lv_at hl 2 rfl) ?_
                        refine lv_bipush (v := nI 48) hx hb dX6_advance_178 (by decide) ?_
                        refine lv_isub hx hb dX6_advance_180 ?_
                        rw [show ((((zI (cc T L k))) - (nI 48))) = (nI (cc T L k - 49)) from (zc_sub (dd_in hdk).1 hc256)]
                        refine n_imul hx hb dX6_advance_181 ?_
                        refine lv_aload_n hx hb dX6_advance_182 rfl (lv_at hl 1 rfl) ?_
                        refine va_get (D := D) (ci := 4) (v := .ref (r 6)) (C := RX6) (T := TX6) (N := 34) hx hb hts hinX60 hown hK.1 hP 0 rfl rfl 6 (by decide) (hts (.fieldLink RX6 23 "RenamingGridModel" "text" "[I") (List.mem_of_getElem? (i := 5) rfl)) (fun _ h9 => h9) rfl dX6_advance_183 ?_
                        refine lv_aload_n hx hb dX6_advance_186 rfl (lv_at hl 1 rfl) ?_
                        refine va_get (D := D) (ci := 4) (v := .int (nI k)) (C := RX6) (T := TX6) (N := 34) hx hb hts hinX60 hown hK.1 hP 0 rfl rfl 13 (by decide) (hts (.fieldLink RX6 153 "RenamingGridModel" "start" "I") (List.mem_of_getElem? (i := 2) rfl)) (fun _ h9 => h9) rfl dX6_advance_187 ?_
                        refine lv_iconst (v := nI 1) hx hb dX6_advance_190 (by decide) ?_
                        refine n_iadd hx hb dX6_advance_191 ?_
                        refine n_iald (D := D) (ca := ca) (v := (nI (T (k + 1)))) hx hb hK.1 hP 1 (f := (rwN T)) rfl (by omega) (by decide) rfl dX6_advance_192 ?_
                        refine n_iadd hx hb dX6_advance_193 ?_
                        refine lv_bipush (v := nI 48) hx hb dX6_advance_194 (by decide) ?_
                        refine n_isub hx hb (by omega) dX6_advance_196 ?_
                        refine va_put (D := D) (ci := 4) (v := .int (nI (((10 * (cc T L k - 49)) + (T (k + 1))) - 48))) (ty := tyX6 15) (C := RX6) (T := TX6) (N := 34) hx hb hts hinX60 tyX6 tyX6_ok nmX6 hown hK.1 hP hD hS 0 rfl rfl 15 (by decide) (hts (.fieldLink RX6 156 "RenamingGridModel" "value" "I") (List.mem_of_getElem? (i := 3) rfl)) (fun _ h9 => h9) rfl (tyX6_ok 15 (by decide)) rfl rfl (Nat.le_of_ble_eq_true rfl) dX6_advance_197 (fun H locs hP hD hS => ?_)
                        have hP : va_P D vwCl [(m, .inr (4, mF r (upd (upd (upd (upd g 12 (nI e)) 13 (nI k)) 14 (nI 1)) 15 (nI (((10 * (cc T L k - 49)) + (T (k + 1))) - 48))))), (r 6, .inl (ca 0, 80, .inl (rwN T)))] H := hP
                        have hD : va_D A [(m, .inr (4, mF r (upd (upd (upd (upd g 12 (nI e)) 13 (nI k)) 14 (nI 1)) 15 (nI (((10 * (cc T L k - 49)) + (T (k + 1))) - 48))))), (r 6, .inl (ca 0, 80, .inl (rwN T)))] := hD
                        refine lv_goto (tgt := 218) hx hb dX6_advance_200 (by decide) ?_
                        exact uRetV hx hb hr hlocks hK hP hD hS ⟨rfl, by rw [← hkn, tk.1, tk.2.1, tk.2.2, (nu_2 hdk hdg hd0 (by omega) c136 (by omega)).1]⟩ (Nat.le_of_ble_eq_true rfl) (Nat.le_of_ble_eq_true rfl) dX6_advance_218
                · rw [bN_1] at c86
                  have hde : dd (cc T L e) ≠ 0 := (dgR (cc_le hT L e)).mp c86
                  have heL2 := cc_in (show cc T L e ≠ 0 from fun z => hde (by rw [z]; exact dd_0))
                  refine lv_aload_n hx hb dX6_advance_89 rfl (lv_at hl 0 rfl) ?_
                  refine lv_dup hx hb dX6_advance_90 rfl ?_
                  refine va_get (D := D) (ci := 4) (v := .int (nI e)) (C := RX6) (T := TX6) (N := 34) hx hb hts hinX60 hown hK.1 hP 0 rfl rfl 12 (by decide) (hts (.fieldLink RX6 147 "RenamingGridModel" "next" "I") (List.mem_of_getElem? (i := 1) rfl)) (fun _ h9 => h9) rfl dX6_advance_91 ?_
                  refine lv_iconst (v := nI 1) hx hb dX6_advance_94 (by decide) ?_
                  refine n_iadd hx hb dX6_advance_95 ?_
                  refine va_put (D := D) (ci := 4) (v := .int (nI (e + 1))) (ty := tyX6 12) (C := RX6) (T := TX6) (N := 34) hx hb hts hinX60 tyX6 tyX6_ok nmX6 hown hK.1 hP hD hS 0 rfl rfl 12 (by decide) (hts (.fieldLink RX6 147 "RenamingGridModel" "next" "I") (List.mem_of_getElem? (i := 1) rfl)) (fun _ h9 => h9) rfl (tyX6_ok 12 (by decide)) rfl rfl (Nat.le_of_ble_eq_true rfl) dX6_advance_96 (fun H locs hP hD hS => ?_)
                  have hP : va_P D vwCl [(m, .inr (4, mF r (upd (upd (upd g 12 (nI (e + 1))) 13 (nI k)) 15 ((zI (cc T L k)))))), (r 6, .inl (ca 0, 80, .inl (rwN T)))] H := hP
                  have hD : va_D A [(m, .inr (4, mF r (upd (upd (upd g 12 (nI (e + 1))) 13 (nI k)) 15 ((zI (cc T L k)))))), (r 6, .inl (ca 0, 80, .inl (rwN T)))] := hD
                  refine lv_goto (tgt := 71) hx hb dX6_advance_99 (by decide) ?_
                  exact ih71 (e + 1) (by omega) (by omega) (fun i a b => (Nat.lt_or_ge i e).elim (fun q => hdg i a q) (fun q => (show e = i by omega) ▸ hde)) (by omega) H locs hP hD hS ls (lv_sub hl [0, 1] rfl)
            exact loop71 (L + 1) k (Nat.le_refl _) hkL (fun i a b => absurd b (Nat.not_lt.mpr a)) (by omega) _ _ hP hD hS ls (lv_sub hl [1, 0] rfl)
        · have hc0 : cc T L k = 0 := by rcases Nat.eq_zero_or_pos (cc T L k) with e | e; exact e; exact absurd ((zI_ge (by omega)).mpr (by omega)) c49
          have tk := tok_0 hc0
          refine lv_aload_n hx hb dX6_advance_52 rfl (lv_at hl 1 rfl) ?_
          refine lv_iconst (v := nI 0) hx hb dX6_advance_53 (by decide) ?_
          refine va_put (D := D) (ci := 4) (v := .int (nI 0)) (ty := tyX6 14) (C := RX6) (T := TX6) (N := 34) hx hb hts hinX60 tyX6 tyX6_ok nmX6 hown hK.1 hP hD hS 0 rfl rfl 14 (by decide) (hts (.fieldLink RX6 159 "RenamingGridModel" "token" "I") (List.mem_of_getElem? (i := 4) rfl)) (fun _ h9 => h9) rfl (tyX6_ok 14 (by decide)) rfl rfl (Nat.le_of_ble_eq_true rfl) dX6_advance_54 (fun H locs hP hD hS => ?_)
          have hP : va_P D vwCl [(m, .inr (4, mF r (upd (upd (upd (upd g 12 (nI k)) 13 (nI k)) 14 (nI 0)) 15 ((zI (cc T L k)))))), (r 6, .inl (ca 0, 80, .inl (rwN T)))] H := hP
          have hD : va_D A [(m, .inr (4, mF r (upd (upd (upd (upd g 12 (nI k)) 13 (nI k)) 14 (nI 0)) 15 ((zI (cc T L k)))))), (r 6, .inl (ca 0, 80, .inl (rwN T)))] := hD
          refine lv_goto (tgt := 218) hx hb dX6_advance_57 (by decide) ?_
          exact uRetV hx hb hr hlocks hK hP hD hS ⟨rfl, by rw [← hkn, tk.1, tk.2.1, tk.2.2]⟩ (Nat.le_of_ble_eq_true rfl) (Nat.le_of_ble_eq_true rfl) dX6_advance_218
      · have h33 : cc T L k = 33 := (zI_eq (by have := cc_le hT L k; omega) (by decide)).mp c10
        have hkl2 := cc_in (show cc T L k ≠ 0 by omega)
        refine lv_aload_n hx hb dX6_advance_13 rfl (lv_at hl 0 rfl) ?_
        refine lv_dup hx hb dX6_advance_14 rfl ?_
        refine va_get (D := D) (ci := 4) (v := .int (nI k)) (C := RX6) (T := TX6) (N := 34) hx hb hts hinX60 hown hK.1 hP 0 rfl rfl 12 (by decide) (hts (.fieldLink RX6 147 "RenamingGridModel" "next" "I") (List.mem_of_getElem? (i := 1) rfl)) (fun _ h9 => h9) rfl dX6_advance_15 ?_
        refine lv_iconst (v := nI 1) hx hb dX6_advance_18 (by decide) ?_
        refine n_iadd hx hb dX6_advance_19 ?_
        refine va_put (D := D) (ci := 4) (v := .int (nI (k + 1))) (ty := tyX6 12) (C := RX6) (T := TX6) (N := 34) hx hb hts hinX60 tyX6 tyX6_ok nmX6 hown hK.1 hP hD hS 0 rfl rfl 12 (by decide) (hts (.fieldLink RX6 147 "RenamingGridModel" "next" "I") (List.mem_of_getElem? (i := 1) rfl)) (fun _ h9 => h9) rfl (tyX6_ok 12 (by decide)) rfl rfl (Nat.le_of_ble_eq_true rfl) dX6_advance_20 (fun H locs hP hD hS => ?_)
        have hP : va_P D vwCl [(m, .inr (4, mF r (upd g 12 (nI (k + 1))))), (r 6, .inl (ca 0, 80, .inl (rwN T)))] H := hP
        have hD : va_D A [(m, .inr (4, mF r (upd g 12 (nI (k + 1))))), (r 6, .inl (ca 0, 80, .inl (rwN T)))] := hD
        refine lv_goto (tgt := 0) hx hb dX6_advance_23 (by decide) ?_
        exact ih0 (k + 1) (by omega) (by omega) (fun i a b => (Nat.lt_or_ge i k).elim (fun q => hsp i a q) (fun q => (show k = i by omega) ▸ h33)) (by omega) H locs hP hD hS ls (lv_sub hl [0] rfl)
  exact loop0 (L + 1) j (Nat.le_refl _) hj (fun i a b => absurd b (Nat.not_lt.mpr a)) (by omega) _ _ hP hD hS ls (lv_sub hl [0] rfl)

set_option maxHeartbeats 4000000 in
set_option maxRecDepth 100000 in
theorem c_X6_isSign (l : Launch) (D : va_G) (ca : Nat → ClassId) (m : Nat) (r : Nat → Nat) (g : Nat → Int32) (tk : Nat) (htk : tk < 3) (hg14 : g 14 = nI tk) (v : Int32) (hg15 : g 15 = v) (x : Nat) : RD l D ca yX6_isSign wsX6_isSign 0 0 [(m, .inr (4, mF r g))] [.ref m, .int (nI x)] (.int (nI (bN (decide (tk = 2 ∧ v = nI x))))) := by
  refine RD.start (cc := cX6_isSign) (maxL := 2) (ret := (some .boolean)) (by decide) rfl (Nat.le_of_ble_eq_true rfl) ?_
  intro p_ e_ s_ m_ below_ meth_ c_ hx hb hml hr hlocks hown hts hP hK ls hl
  have hown : s_.vm.findClass RX6 = some m_.cls := hown
  have hl : lv_has ls 2 [(0, .ref m), (1, .int (nI x))] := hl
  have hinX60 : ∀ w ∈ wsX60, w ∈ wsX6_isSign := fun w h => List.mem_cons_of_mem _ (List.mem_append_right _ h)
  refine lv_aload_n hx hb dX6_isSign_0 rfl (lv_at hl 0 rfl) ?_
  refine va_get (D := D) (ci := 4) (v := .int (nI tk)) (C := RX6) (T := TX6) (N := 34) hx hb hts hinX60 hown hK.1 hP 0 rfl rfl 14 (by decide) (hts (.fieldLink RX6 159 "RenamingGridModel" "token" "I") (List.mem_of_getElem? (i := 1) rfl)) (fun _ h9 => h9) (congrArg (fun z => some (Value.int z)) hg14) dX6_isSign_1 ?_
  refine lv_iconst (v := nI 2) hx hb dX6_isSign_4 (by decide) ?_
  refine n_ic_ne (tgt := 20) hx hb dX6_isSign_5 (by decide) (by omega) (by decide) (fun c5 => ?_) (fun c5 => ?_)
  · refine lv_iconst (v := nI 0) hx hb dX6_isSign_20 (by decide) ?_
    exact rRetZ hx hb hr hlocks rfl (congrArg (fun z => Value.int (nI z)) (bN_f (fun z => c5 z.1)).symm) dX6_isSign_21
  · refine lv_aload_n hx hb dX6_isSign_8 rfl (lv_at hl 0 rfl) ?_
    refine va_get (D := D) (ci := 4) (v := .int v) (C := RX6) (T := TX6) (N := 34) hx hb hts hinX60 hown hK.1 hP 0 rfl rfl 15 (by decide) (hts (.fieldLink RX6 156 "RenamingGridModel" "value" "I") (List.mem_of_getElem? (i := 2) rfl)) (fun _ h9 => h9) (congrArg (fun z => some (Value.int z)) hg15) dX6_isSign_9 ?_
    refine lv_iload_n hx hb dX6_isSign_12 rfl (lv_at hl 1 rfl) ?_
    refine lv_icmp_ne (tgt := 20) hx hb dX6_isSign_13 (by decide) (fun c13 => ?_) (fun c13 => ?_)
    · refine lv_iconst (v := nI 0) hx hb dX6_isSign_20 (by decide) ?_
      exact rRetZ hx hb hr hlocks rfl (congrArg (fun z => Value.int (nI z)) (bN_f (fun z => c13 z.2)).symm) dX6_isSign_21
    · refine lv_iconst (v := nI 1) hx hb dX6_isSign_16 (by decide) ?_
      refine lv_goto (tgt := 21) hx hb dX6_isSign_17 (by decide) ?_
      exact rRetZ hx hb hr hlocks rfl (congrArg (fun z => Value.int (nI z)) (bN_t ⟨c5, c13⟩).symm) dX6_isSign_21

set_option maxHeartbeats 4000000 in
set_option maxRecDepth 100000 in
theorem c_X6_accept_1 (l : Launch) (D : va_G) (ca : Nat → ClassId) (m : Nat) (r : Nat → Nat) (g : Nat → Int32) (L : Nat) (hg7 : g 7 = nI L) (T : Nat → Nat) (hL : L ≤ 80) (hT : ∀ i, T i ≤ 255) (j : Nat) (hg12 : g 12 = nI j) (hj : j ≤ L) (hg16 : g 16 = -9) : UP l D ca yX6_accept wsX6_accept 2 44 0 0 [(m, .inr (4, mF r g)), (r 6, .inl (ca 0, 80, .inl (rwN T)))] [.ref m, .int (nI 1)] (one (some (.int (g 15))) [(m, .inr (4, mF r (upd (upd (upd (upd g 12 (nI (nxT T L (skN T L j)))) 13 (nI (skN T L j))) 14 (nI (tkK T L (skN T L j)))) 15 ((vlV T L (skN T L j)))))), (r 6, .inl (ca 0, 80, .inl (rwN T)))]) := by
  refine UP.start (cc := cX6_accept) (maxL := 3) (ret := (some .int)) (by decide) rfl (Nat.le_of_ble_eq_true rfl) ?_
  intro p_ e_ s_ m_ below_ meth_ c_ A hx hb hml hr hlocks hin hown hts hK hA hP hD hS ls hl
  have hown : s_.vm.findClass RX6 = some m_.cls := hown
  have hl : lv_has ls 3 [(0, .ref m), (1, .int (nI 1))] := hl
  have hinX60 : ∀ w ∈ wsX60, w ∈ wsX6_accept := fun w h => List.mem_cons_of_mem _ (List.mem_append_right _ h)
  refine lv_aload_n hx hb dX6_accept_0 rfl (lv_at hl 0 rfl) ?_
  refine va_get (D := D) (ci := 4) (v := .int (g 15)) (C := RX6) (T := TX6) (N := 34) hx hb hts hinX60 hown hK.1 hP 0 rfl rfl 15 (by decide) (hts (.fieldLink RX6 156 "RenamingGridModel" "value" "I") (List.mem_of_getElem? (i := 1) rfl)) (fun _ h9 => h9) rfl dX6_accept_1 ?_
  refine lv_istore_n (lv' := [(2, .int (g 15)), (0, .ref m), (1, .int (nI 1))]) hx hb dX6_accept_4 rfl hl (by decide) rfl (fun ls hl => ?_)
  refine lv_aload_n hx hb dX6_accept_5 rfl (lv_at hl 1 rfl) ?_
  refine va_get (D := D) (ci := 4) (v := .int ((-9))) (C := RX6) (T := TX6) (N := 34) hx hb hts hinX60 hown hK.1 hP 0 rfl rfl 16 (by decide) (hts (.fieldLink RX6 162 "RenamingGridModel" "error" "I") (List.mem_of_getElem? (i := 2) rfl)) (fun _ h9 => h9) (congrArg (fun z => some (Value.int z)) hg16) dX6_accept_6 ?_
  refine lv_bipush (v := -9) hx hb dX6_accept_9 (by decide) ?_
  refine lv_icmp_ne (tgt := 33) hx hb dX6_accept_11 (by decide) (fun c11 => absurd c11 (fun z => z rfl)) (fun c11 => ?_)
  refine lv_iload_n hx hb dX6_accept_14 rfl (lv_at hl 2 rfl) ?_
  refine n_if_eq (tgt := 25) hx hb dX6_accept_15 (by decide) (by decide) (fun q => absurd q (by decide)) (fun _ => ?_)
  refine lv_aload_n hx hb dX6_accept_18 rfl (lv_at hl 1 rfl) ?_
  refine uV (nL := 3) (wr := []) (ci := 4) (q0 := 0) (cq := (RX6, TX6, 34)) hx hb hml hown hts hK hA hP hD hS [] [] (c_X6_advance l D ca m r g L hg7 T hL hT j hg12 hj) gX6_accept_X6_advance rfl ⟨rfl, qX6_advance⟩ ⟨Nat.le_of_ble_eq_true rfl, Nat.le_of_ble_eq_true rfl⟩ rfl rfl [0, 1] [] rfl rfl (by decide) (by decide) rfl hl.1 (Nat.le_of_ble_eq_true rfl) ⟨Nat.le_of_ble_eq_true rfl, Nat.le_of_ble_eq_true rfl⟩ dX6_accept_19 (oneK (wsN := [(m, .inr (4, mF r (upd (upd (upd (upd g 12 (nI (nxT T L (skN T L j)))) 13 (nI (skN T L j))) 14 (nI (tkK T L (skN T L j)))) 15 ((vlV T L (skN T L j)))))), (r 6, .inl (ca 0, 80, .inl (rwN T)))]) [0, 1] (by decide) rfl (st1 := []) rfl 0 0 rfl rfl (fun H locs hP hD hS => ?_))
  refine lv_goto (tgt := 33) hx hb dX6_accept_22 (by decide) ?_
  refine lv_iload_n hx hb dX6_accept_33 rfl (lv_at hl 0 rfl) ?_
  exact uRetI hx hb hr hlocks hK hP hD hS ⟨rfl, rfl⟩ (Nat.le_of_ble_eq_true rfl) (Nat.le_of_ble_eq_true rfl) dX6_accept_34

set_option maxHeartbeats 4000000 in
set_option maxRecDepth 100000 in
theorem c_X6_accept_0 (l : Launch) (D : va_G) (ca : Nat → ClassId) (m : Nat) (r : Nat → Nat) (g : Nat → Int32) (hg16 : g 16 = -9) : UP l D ca yX6_accept wsX6_accept 2 44 0 0 [(m, .inr (4, mF r g))] [.ref m, .int (nI 0)] (one (some (.int (g 15))) [(m, .inr (4, mF r (upd g 16 ((g 13)))))]) := by
  refine UP.start (cc := cX6_accept) (maxL := 3) (ret := (some .int)) (by decide) rfl (Nat.le_of_ble_eq_true rfl) ?_
  intro p_ e_ s_ m_ below_ meth_ c_ A hx hb hml hr hlocks hin hown hts hK hA hP hD hS ls hl
  have hown : s_.vm.findClass RX6 = some m_.cls := hown
  have hl : lv_has ls 3 [(0, .ref m), (1, .int (nI 0))] := hl
  have hinX60 : ∀ w ∈ wsX60, w ∈ wsX6_accept := fun w h => List.mem_cons_of_mem _ (List.mem_append_right _ h)
  refine lv_aload_n hx hb dX6_accept_0 rfl (lv_at hl 0 rfl) ?_
  refine va_get (D := D) (ci := 4) (v := .int (g 15)) (C := RX6) (T := TX6) (N := 34) hx hb hts hinX60 hown hK.1 hP 0 rfl rfl 15 (by decide) (hts (.fieldLink RX6 156 "RenamingGridModel" "value" "I") (List.mem_of_getElem? (i := 1) rfl)) (fun _ h9 => h9) rfl dX6_accept_1 ?_
  refine lv_istore_n (lv' := [(2, .int (g 15)), (0, .ref m), (1, .int (nI 0))]) hx hb dX6_accept_4 rfl hl (by decide) rfl (fun ls hl => ?_)
  refine lv_aload_n hx hb dX6_accept_5 rfl (lv_at hl 1 rfl) ?_
  refine va_get (D := D) (ci := 4) (v := .int ((-9))) (C := RX6) (T := TX6) (N := 34) hx hb hts hinX60 hown hK.1 hP 0 rfl rfl 16 (by decide) (hts (.fieldLink RX6 162 "RenamingGridModel" "error" "I") (List.mem_of_getElem? (i := 2) rfl)) (fun _ h9 => h9) (congrArg (fun z => some (Value.int z)) hg16) dX6_accept_6 ?_
  refine lv_bipush (v := -9) hx hb dX6_accept_9 (by decide) ?_
  refine lv_icmp_ne (tgt := 33) hx hb dX6_accept_11 (by decide) (fun c11 => absurd c11 (fun z => z rfl)) (fun c11 => ?_)
  refine lv_iload_n hx hb dX6_accept_14 rfl (lv_at hl 2 rfl) ?_
  refine n_if_eq (tgt := 25) hx hb dX6_accept_15 (by decide) (by decide) (fun _ => ?_) (fun q => absurd q (by decide))
  refine lv_aload_n hx hb dX6_accept_25 rfl (lv_at hl 1 rfl) ?_
  refine lv_aload_n hx hb dX6_accept_26 rfl (lv_at hl 1 rfl) ?_
  refine va_get (D := D) (ci := 4) (v := .int (g 13)) (C := RX6) (T := TX6) (N := 34) hx hb hts hinX60 hown hK.1 hP 0 rfl rfl 13 (by decide) (hts (.fieldLink RX6 153 "RenamingGridModel" "start" "I") (List.mem_of_getElem? (i := 3) rfl)) (fun _ h9 => h9) rfl dX6_accept_27 ?_
  refine va_put (D := D) (ci := 4) (v := .int (g 13)) (ty := tyX6 16) (C := RX6) (T := TX6) (N := 34) hx hb hts hinX60 tyX6 tyX6_ok nmX6 hown hK.1 hP hD hS 0 rfl rfl 16 (by decide) (hts (.fieldLink RX6 162 "RenamingGridModel" "error" "I") (List.mem_of_getElem? (i := 2) rfl)) (fun _ h9 => h9) rfl (tyX6_ok 16 (by decide)) rfl rfl (Nat.le_of_ble_eq_true rfl) dX6_accept_30 (fun H locs hP hD hS => ?_)
  have hP : va_P D vwCl [(m, .inr (4, mF r (upd g 16 (g 13))))] H := hP
  have hD : va_D A [(m, .inr (4, mF r (upd g 16 (g 13))))] := hD
  refine lv_iload_n hx hb dX6_accept_33 rfl (lv_at hl 0 rfl) ?_
  exact uRetI hx hb hr hlocks hK hP hD hS ⟨rfl, rfl⟩ (Nat.le_of_ble_eq_true rfl) (Nat.le_of_ble_eq_true rfl) dX6_accept_34

set_option maxHeartbeats 4000000 in
set_option maxRecDepth 100000 in
theorem c_X6_accept_e (l : Launch) (D : va_G) (ca : Nat → ClassId) (m : Nat) (r : Nat → Nat) (g : Nat → Int32) (e : Int32) (hg16 : g 16 = e) (he : ¬ e = -9) (x : Int32) : UP l D ca yX6_accept wsX6_accept 2 44 0 0 [(m, .inr (4, mF r g))] [.ref m, .int x] (one (some (.int (g 15))) [(m, .inr (4, mF r g))]) := by
  refine UP.start (cc := cX6_accept) (maxL := 3) (ret := (some .int)) (by decide) rfl (Nat.le_of_ble_eq_true rfl) ?_
  intro p_ e_ s_ m_ below_ meth_ c_ A hx hb hml hr hlocks hin hown hts hK hA hP hD hS ls hl
  have hown : s_.vm.findClass RX6 = some m_.cls := hown
  have hl : lv_has ls 3 [(0, .ref m), (1, .int x)] := hl
  have hinX60 : ∀ w ∈ wsX60, w ∈ wsX6_accept := fun w h => List.mem_cons_of_mem _ (List.mem_append_right _ h)
  refine lv_aload_n hx hb dX6_accept_0 rfl (lv_at hl 0 rfl) ?_
  refine va_get (D := D) (ci := 4) (v := .int (g 15)) (C := RX6) (T := TX6) (N := 34) hx hb hts hinX60 hown hK.1 hP 0 rfl rfl 15 (by decide) (hts (.fieldLink RX6 156 "RenamingGridModel" "value" "I") (List.mem_of_getElem? (i := 1) rfl)) (fun _ h9 => h9) rfl dX6_accept_1 ?_
  refine lv_istore_n (lv' := [(2, .int (g 15)), (0, .ref m), (1, .int x)]) hx hb dX6_accept_4 rfl hl (by decide) rfl (fun ls hl => ?_)
  refine lv_aload_n hx hb dX6_accept_5 rfl (lv_at hl 1 rfl) ?_
  refine va_get (D := D) (ci := 4) (v := .int e) (C := RX6) (T := TX6) (N := 34) hx hb hts hinX60 hown hK.1 hP 0 rfl rfl 16 (by decide) (hts (.fieldLink RX6 162 "RenamingGridModel" "error" "I") (List.mem_of_getElem? (i := 2) rfl)) (fun _ h9 => h9) (congrArg (fun z => some (Value.int z)) hg16) dX6_accept_6 ?_
  refine lv_bipush (v := -9) hx hb dX6_accept_9 (by decide) ?_
  refine lv_icmp_ne (tgt := 33) hx hb dX6_accept_11 (by decide) (fun c11 => ?_) (fun c11 => absurd c11 he)
  refine lv_iload_n hx hb dX6_accept_33 rfl (lv_at hl 0 rfl) ?_
  exact uRetI hx hb hr hlocks hK hP hD hS ⟨rfl, rfl⟩ (Nat.le_of_ble_eq_true rfl) (Nat.le_of_ble_eq_true rfl) dX6_accept_34

