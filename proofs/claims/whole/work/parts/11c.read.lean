/-! ===== the model's reader ===== -/
theorem nx_gt {T : Nat → Nat} {L j : Nat} (hj : j < L) : j < skN T L (nxT T L j) := by
  have h1 := (skN_le (T := T) (nxT_le (T := T) (L := L) (j := j) (by omega)).2).1
  have hc : cc T L j ≠ 0 := by rw [cc_p hj]; omega
  have h2 : j < nxT T L j := by
    unfold nxT
    rw [if_neg hc]
    by_cases q : dd (cc T L j) ≠ 0
    · rw [if_pos q]
      obtain ⟨a1, a2, a3, a4⟩ := dg_s (T := T) (L := L) (d := L - j) (j := j) (by omega)
      rcases Nat.lt_or_ge j (dgE T L (L - j) j) with z | z
      · exact z
      · have : dgE T L (L - j) j = j := by omega
        rw [this] at a2
        exact absurd a2 q
    · rw [if_neg q]; omega
  omega
theorem rd_L {L j : Nat} (h : j ≤ L) : j = L ∨ j < L := by omega
/-- at a token, refused or at the end, inside an item -/
theorem rE {T : Nat → Nat} {L n E j R : Nat} {X : PS} (hr : R = (rdF T L n (L - j) j E X).1) (ht : TB T L j) (hE : E ≠ 0) (h : (aft T L n E j X).1 = 4) : R = j + 1 := by
  rw [hr]
  exact RT_x ht hE h (rd_L ht.1)
theorem rE0 {T : Nat → Nat} {L n j R : Nat} {X : PS} (hr : R = (rdF T L n (L - j) j 0 X).1) (ht : TB T L j) (hj : j < L) (h : (aft T L n 0 j X).1 = 4) : R = j + 1 := by rw [hr, rd_4 ht hj h]
theorem af_n {T : Nat → Nat} {L n j : Nat} {X : PS} (hn : n ≤ 3) (h : ¬ (tkK T L j = 1 ∧ inR n (vlV T L j))) : (aft T L n 0 j X).1 = 4 := by
  by_cases e : tkK T L j = 1
  · exact af_0n (fun z => h ⟨e, (pr_iff hn e).mpr z⟩)
  · exact af_0n (fun z => z.1 (num_0 (Nat.eq_zero_of_not_pos (fun w => e (tk_1.mpr (by omega))))))
theorem af_c {T : Nat → Nat} {L n j : Nat} {X : PS} (h : ¬ (tkK T L j = 1 ∧ ¬ vlV T L j < nI 1 ∧ ¬ nI 30 < vlV T L j)) : (aft T L n 2 j X).1 = 4 := by
  by_cases e : tkK T L j = 1
  · exact af_2n (fun z => h ⟨e, (ct_iff e).mpr z⟩)
  · exact af_2n (fun z => by have := num_0 (T := T) (L := L) (j := j) (Nat.eq_zero_of_not_pos (fun w => e (tk_1.mpr (by omega)))); omega)
theorem go_x {T : Nat → Nat} {L n E j : Nat} {X : PS} {R : Nat × PS} {E2 : Nat} {X2 : PS} (hr : R = rdF T L n (L - j) j E X) (ht : TB T L j) (hc : cc T L j ≠ 0) (ha : aft T L n E j X = (E2, X2)) (h4 : E2 ≠ 4) : R = rdF T L n (L - skN T L (nxT T L j)) (skN T L (nxT T L j)) E2 X2 ∧ TB T L (skN T L (nxT T L j)) ∧ j < skN T L (nxT T L j) := by
  have hj := cc_in hc
  have h1 := rd_go (n := n) (E := E) (X := X) ht hj (by rw [ha]; exact h4)
  rw [ha] at h1
  exact ⟨hr.trans h1, TB_nx hj, nx_gt hj⟩
theorem cc_n1 {T : Nat → Nat} {L j : Nat} (h : tkK T L j = 1) : cc T L j ≠ 0 := fun z => tk_1.mp h (by rw [z]; exact dd_0)

set_option maxHeartbeats 4000000 in
set_option maxRecDepth 100000 in
theorem c_X6_read_0 (l : Launch) (D : va_G) (ca : Nat → ClassId) (m : Nat) (r : Nat → Nat) (g : Nat → Int32) (L : Nat) (hg7 : g 7 = nI L) (T : Nat → Nat) (hL : L ≤ 80) (hT : ∀ i, T i ≤ 255) (s S : Nat → Nat) (hs : MR s S) (hok : SOK S) (X0 : PS) (hX0 : X0.1 = 0) : UP l D ca yX6_read wsX6_read 3 66 0 0 [(m, .inr (4, mF r g)), (r 1, .inl (ca 0, 38, .inl (rwN s))), (r 6, .inl (ca 0, 80, .inl (rwN T)))] [.ref m, .int (nI 0)] (fun v W1 => ∃ (z : Int32) (g2 : Nat → Int32), v = some (.int z) ∧ scr g g2 ∧ g2 16 = n9 (rdF T L (S 1) L 0 0 X0).1 ∧ W1 = [(m, .inr (4, mF r g2)), (r 1, .inl (ca 0, 38, .inl (rwN s))), (r 6, .inl (ca 0, 80, .inl (rwN T)))]) := by
  refine UP.start (cc := cX6_read) (maxL := 5) (ret := (some .int)) (by decide) rfl (Nat.le_of_ble_eq_true rfl) ?_
  intro p_ e_ s_ m_ below_ meth_ c_ A hx hb hml hr hlocks hin hown hts hK hA hP hD hS ls hl
  have hown : s_.vm.findClass RX6 = some m_.cls := hown
  have hl : lv_has ls 5 [(0, .ref m), (1, .int (nI 0))] := hl
  have hinX60 : ∀ w ∈ wsX60, w ∈ wsX6_read := fun w h => List.mem_cons_of_mem _ (List.mem_append_right _ h)
  refine lv_aload_n hx hb dX6_read_0 rfl (lv_at hl 0 rfl) ?_
  refine lv_bipush (v := -9) hx hb dX6_read_1 (by decide) ?_
  refine va_put (D := D) (ci := 4) (v := .int ((-9))) (ty := tyX6 16) (C := RX6) (T := TX6) (N := 34) hx hb hts hinX60 tyX6 tyX6_ok nmX6 hown hK.1 hP hD hS 0 rfl rfl 16 (by decide) (hts (.fieldLink RX6 162 "RenamingGridModel" "error" "I") (List.mem_of_getElem? (i := 1) rfl)) (fun _ h9 => h9) rfl (tyX6_ok 16 (by decide)) rfl rfl (Nat.le_of_ble_eq_true rfl) dX6_read_3 (fun H locs hP hD hS => ?_)
  have hP : va_P D vwCl [(m, .inr (4, mF r (upd g 16 ((-9))))), (r 1, .inl (ca 0, 38, .inl (rwN s))), (r 6, .inl (ca 0, 80, .inl (rwN T)))] H := hP
  have hD : va_D A [(m, .inr (4, mF r (upd g 16 ((-9))))), (r 1, .inl (ca 0, 38, .inl (rwN s))), (r 6, .inl (ca 0, 80, .inl (rwN T)))] := hD
  refine lv_aload_n hx hb dX6_read_6 rfl (lv_at hl 0 rfl) ?_
  refine lv_iconst (v := nI 0) hx hb dX6_read_7 (by decide) ?_
  refine va_put (D := D) (ci := 4) (v := .int (nI 0)) (ty := tyX6 12) (C := RX6) (T := TX6) (N := 34) hx hb hts hinX60 tyX6 tyX6_ok nmX6 hown hK.1 hP hD hS 0 rfl rfl 12 (by decide) (hts (.fieldLink RX6 147 "RenamingGridModel" "next" "I") (List.mem_of_getElem? (i := 2) rfl)) (fun _ h9 => h9) rfl (tyX6_ok 12 (by decide)) rfl rfl (Nat.le_of_ble_eq_true rfl) dX6_read_8 (fun H locs hP hD hS => ?_)
  have hP : va_P D vwCl [(m, .inr (4, mF r (upd (upd g 12 (nI 0)) 16 ((-9))))), (r 1, .inl (ca 0, 38, .inl (rwN s))), (r 6, .inl (ca 0, 80, .inl (rwN T)))] H := hP
  have hD : va_D A [(m, .inr (4, mF r (upd (upd g 12 (nI 0)) 16 ((-9))))), (r 1, .inl (ca 0, 38, .inl (rwN s))), (r 6, .inl (ca 0, 80, .inl (rwN T)))] := hD
  refine lv_aload_n hx hb dX6_read_11 rfl (lv_at hl 0 rfl) ?_
  refine uV (nL := 5) (wr := [(r 1, .inl (ca 0, 38, .inl (rwN s)))]) (ci := 4) (q0 := 0) (cq := (RX6, TX6, 34)) hx hb hml hown hts hK hA hP hD hS [] [] (c_X6_advance l D ca m r ((upd (upd g 12 (nI 0)) 16 ((-9)))) L hg7 T hL hT 0 rfl (Nat.zero_le _)) gX6_read_X6_advance rfl ⟨rfl, qX6_advance⟩ ⟨Nat.le_of_ble_eq_true rfl, Nat.le_of_ble_eq_true rfl⟩ rfl rfl [0, 2] [1] rfl rfl (by decide) (by decide) rfl hl.1 (Nat.le_of_ble_eq_true rfl) ⟨Nat.le_of_ble_eq_true rfl, Nat.le_of_ble_eq_true rfl⟩ dX6_read_12 (oneK (wsN := [(m, .inr (4, mF r (upd (upd (upd (upd (upd g 12 (nI (nxT T L (skN T L 0)))) 13 (nI (skN T L 0))) 14 (nI (tkK T L (skN T L 0)))) 15 ((vlV T L (skN T L 0)))) 16 ((-9))))), (r 1, .inl (ca 0, 38, .inl (rwN s))), (r 6, .inl (ca 0, 80, .inl (rwN T)))]) [1, 0, 2] (by decide) rfl (st1 := []) rfl 0 0 rfl rfl (fun H locs hP hD hS => ?_))
  obtain ⟨j, hdj⟩ : ∃ z, z = skN T L 0 := ⟨_, rfl⟩
  have htj : TB T L j := hdj ▸ TB_sk (Nat.zero_le L) (BD_0 T L)
  have hrj : rdF T L (S 1) L 0 0 X0 = rdF T L (S 1) (L - j) j 0 X0 := by rw [hdj]; exact rd_sk (Nat.zero_le L)
  rw [← hdj] at hP hD
  have hlej := htj.1
  have hP : va_P D vwCl [(m, .inr (4, mF r (upd (upd (upd (upd (upd g 12 (nI (nxT T L j))) 13 (nI j)) 14 (nI (tkK T L j))) 15 ((vlV T L j))) 16 ((-9))))), (r 1, .inl (ca 0, 38, .inl (rwN s))), (r 6, .inl (ca 0, 80, .inl (rwN T)))] H := hP
  have hD : va_D A [(m, .inr (4, mF r (upd (upd (upd (upd (upd g 12 (nI (nxT T L j))) 13 (nI j)) 14 (nI (tkK T L j))) 15 ((vlV T L j))) 16 ((-9))))), (r 1, .inl (ca 0, 38, .inl (rwN s))), (r 6, .inl (ca 0, 80, .inl (rwN T)))] := hD
  refine lv_aload_n hx hb dX6_read_15 rfl (lv_at hl 0 rfl) ?_
  refine va_get (D := D) (ci := 4) (v := .int (nI (tkK T L j))) (C := RX6) (T := TX6) (N := 34) hx hb hts hinX60 hown hK.1 hP 0 rfl rfl 14 (by decide) (hts (.fieldLink RX6 159 "RenamingGridModel" "token" "I") (List.mem_of_getElem? (i := 3) rfl)) (fun _ h9 => h9) rfl dX6_read_16 ?_
  refine n_if_ne (tgt := 30) hx hb dX6_read_19 (by decide) (by have := tk_lt T L j; omega) (fun c19 => ?_) (fun c19 => ?_)
  · refine lv_iconst (v := nI 0) hx hb dX6_read_30 (by decide) ?_
    refine lv_istore_n (lv' := [(2, .int (nI 0)), (0, .ref m), (1, .int (nI 0))]) hx hb dX6_read_31 rfl hl (by decide) rfl (fun ls hl => ?_)
    have loop32 : ∀ (N_ : Nat) (j : Nat) (X : PS) (htj : TB T L j) (hrj : rdF T L (S 1) L 0 0 X0 = rdF T L (S 1) (L - j) j 0 X) (hXp : 0 < X.1 ∨ j < L) (hjl : j ≤ L) (hf : L < j + N_), ∀ (H : Heap) (locs : List Loc), va_P D vwCl [(m, .inr (4, mF r (upd (upd (upd (upd (upd g 12 (nI (nxT T L j))) 13 (nI j)) 14 (nI (tkK T L j))) 15 ((vlV T L j))) 16 ((-9))))), (r 1, .inl (ca 0, 38, .inl (rwN s))), (r 6, .inl (ca 0, 80, .inl (rwN T)))] H → va_D A [(m, .inr (4, mF r (upd (upd (upd (upd (upd g 12 (nI (nxT T L j))) 13 (nI j)) 14 (nI (tkK T L j))) 15 ((vlV T L j))) 16 ((-9))))), (r 1, .inl (ca 0, 38, .inl (rwN s))), (r 6, .inl (ca 0, 80, .inl (rwN T)))] → va_S A s_.heap H locs → ∀ (ls : Array Slot), lv_has ls 5 [(2, .int (nI 0)), (0, .ref m), (1, .int (nI 0))] → W p_ l e_ ({ frames := 3, cells := 0, slots := 0, locals := 66 }) s_ m_ ([.ref m, .int (nI 0)]).toArray below_ meth_ c_ H locs 0 0 (MQ below_ (uQA D ca A (fun v W1 => ∃ (z : Int32) (g2 : Nat → Int32), v = some (.int z) ∧ scr g g2 ∧ g2 16 = n9 (rdF T L (S 1) L 0 0 X0).1 ∧ W1 = [(m, .inr (4, mF r g2)), (r 1, .inl (ca 0, 38, .inl (rwN s))), (r 6, .inl (ca 0, 80, .inl (rwN T)))])) ([.ref m, .int (nI 0)]).toArray s_ 0 0 A) (F0 m_ 32 ls []) := by
      intro N_
      induction N_ with
      | zero => intro j X htj hrj hXp hjl hf; exfalso; omega
      | succ N_ ih32 =>
        intro j X htj hrj hXp hjl hf H locs hP hD hS ls hl
        refine lv_aload_n hx hb dX6_read_32 rfl (lv_at hl 1 rfl) ?_
        refine va_get (D := D) (ci := 4) (v := .int ((-9))) (C := RX6) (T := TX6) (N := 34) hx hb hts hinX60 hown hK.1 hP 0 rfl rfl 16 (by decide) (hts (.fieldLink RX6 162 "RenamingGridModel" "error" "I") (List.mem_of_getElem? (i := 1) rfl)) (fun _ h9 => h9) rfl dX6_read_33 ?_
        refine lv_bipush (v := -9) hx hb dX6_read_36 (by decide) ?_
        refine lv_icmp_ne (tgt := 168) hx hb dX6_read_38 (by decide) (fun c38 => absurd c38 (fun z => z rfl)) (fun c38 => ?_)
        refine lv_aload_n hx hb dX6_read_41 rfl (lv_at hl 1 rfl) ?_
        refine va_get (D := D) (ci := 4) (v := .int (nI (tkK T L j))) (C := RX6) (T := TX6) (N := 34) hx hb hts hinX60 hown hK.1 hP 0 rfl rfl 14 (by decide) (hts (.fieldLink RX6 159 "RenamingGridModel" "token" "I") (List.mem_of_getElem? (i := 3) rfl)) (fun _ h9 => h9) rfl dX6_read_42 ?_
        refine n_if_eq (tgt := 168) hx hb dX6_read_45 (by decide) (by have := tk_lt T L j; omega) (fun c45 => ?_) (fun c45 => ?_)
        · have hjL : j = L := (tk_0 htj.1).mp c45
          have hE : rdF T L (S 1) L 0 0 X0 = (0, X) := by rw [hrj, hjL, rd_end, if_pos ⟨rfl, by omega⟩]
          refine lv_iload_n hx hb dX6_read_168 rfl (lv_at hl 0 rfl) ?_
          exact uRetI hx hb hr hlocks hK hP hD hS ⟨_, _, rfl, (scr_u (by decide) (scr_u (by decide) (scr_u (by decide) (scr_u (by decide) (scr_u (by decide) (scr_r _)))))), (by show (-9 : Int32) = _; rw [hE]; rfl), rfl⟩ (Nat.le_of_ble_eq_true rfl) (Nat.le_of_ble_eq_true rfl) dX6_read_169
        · have hjL : j < L := Nat.lt_of_le_of_ne htj.1 (fun z => c45 ((tk_0 htj.1).mpr z))
          refine lv_aload_n hx hb dX6_read_48 rfl (lv_at hl 1 rfl) ?_
          refine lv_aload_n hx hb dX6_read_49 rfl (lv_at hl 1 rfl) ?_
          refine va_get (D := D) (ci := 4) (v := .int (nI (tkK T L j))) (C := RX6) (T := TX6) (N := 34) hx hb hts hinX60 hown hK.1 hP 0 rfl rfl 14 (by decide) (hts (.fieldLink RX6 159 "RenamingGridModel" "token" "I") (List.mem_of_getElem? (i := 3) rfl)) (fun _ h9 => h9) rfl dX6_read_50 ?_
          refine lv_iconst (v := nI 1) hx hb dX6_read_53 (by decide) ?_
          refine n_ic_ne (tgt := 72) hx hb dX6_read_54 (by decide) (by have := tk_lt T L j; omega) (by decide) (fun c54 => ?_) (fun c54 => ?_)
          · have hE : (rdF T L (S 1) L 0 0 X0).1 = j + 1 := rE0 (congrArg Prod.fst hrj) htj hjL (af_n (by have := hok.2.1; omega) (fun z => c54 z.1))
            refine lv_iconst (v := nI 0) hx hb dX6_read_72 (by decide) ?_
            refine uV (nL := 5) (wr := [(r 1, .inl (ca 0, 38, .inl (rwN s))), (r 6, .inl (ca 0, 80, .inl (rwN T)))]) (ci := 4) (q0 := 0) (cq := (RX6, TX6, 34)) hx hb hml hown hts hK hA hP hD hS [.int (nI 0)] [] (c_X6_accept_0 l D ca m r ((upd (upd (upd (upd (upd g 12 (nI (nxT T L j))) 13 (nI j)) 14 (nI (tkK T L j))) 15 ((vlV T L j))) 16 ((-9)))) rfl) gX6_read_X6_accept rfl ⟨rfl, qX6_accept⟩ ⟨Nat.le_of_ble_eq_true rfl, Nat.le_of_ble_eq_true rfl⟩ rfl rfl [0] [1, 2] rfl rfl (by decide) (by decide) rfl hl.1 (Nat.le_of_ble_eq_true rfl) ⟨Nat.le_of_ble_eq_true rfl, Nat.le_of_ble_eq_true rfl⟩ dX6_read_73 (oneK (wsN := [(m, .inr (4, mF r (upd (upd (upd (upd (upd g 12 (nI (nxT T L j))) 13 (nI j)) 14 (nI (tkK T L j))) 15 ((vlV T L j))) 16 (nI j)))), (r 1, .inl (ca 0, 38, .inl (rwN s))), (r 6, .inl (ca 0, 80, .inl (rwN T)))]) [2, 0, 1] (by decide) rfl (st1 := [.int ((vlV T L j))]) rfl 0 0 rfl rfl (fun H locs hP hD hS => ?_))
            refine lv_istore_n (lv' := [(3, .int ((vlV T L j))), (2, .int (nI 0)), (0, .ref m), (1, .int (nI 0))]) hx hb dX6_read_76 rfl hl (by decide) rfl (fun ls hl => ?_)
            refine lv_iconst (v := nI 1) hx hb dX6_read_77 (by decide) ?_
            refine lv_istore (lv' := [(4, .int (nI 1)), (3, .int ((vlV T L j))), (2, .int (nI 0)), (0, .ref m), (1, .int (nI 0))]) hx hb dX6_read_78 hl (by decide) rfl (fun ls hl => ?_)
            refine lv_aload_n hx hb dX6_read_80 rfl (lv_at hl 3 rfl) ?_
            refine va_get (D := D) (ci := 4) (v := .int (nI j)) (C := RX6) (T := TX6) (N := 34) hx hb hts hinX60 hown hK.1 hP 0 rfl rfl 16 (by decide) (hts (.fieldLink RX6 162 "RenamingGridModel" "error" "I") (List.mem_of_getElem? (i := 1) rfl)) (fun _ h9 => h9) rfl dX6_read_81 ?_
            refine lv_bipush (v := -9) hx hb dX6_read_84 (by decide) ?_
            refine lv_icmp_ne (tgt := 136) hx hb dX6_read_86 (by decide) (fun c86 => ?_) (fun c86 => absurd c86 (nI_n9 (by omega)))
            refine lv_aload_n hx hb dX6_read_136 rfl (lv_at hl 3 rfl) ?_
            refine lv_aload_n hx hb dX6_read_137 rfl (lv_at hl 3 rfl) ?_
            refine lv_bipush (v := nI 59) hx hb dX6_read_138 (by decide) ?_
            refine rdV (nL := 5) (ci := 4) (q0 := 0) (cq := (RX6, TX6, 34)) hx hb hml hown hts hK hP [.int (nI 59)] [.ref m] (c_X6_isSign l D ca m r ((upd (upd (upd (upd (upd g 12 (nI (nxT T L j))) 13 (nI j)) 14 (nI (tkK T L j))) 15 ((vlV T L j))) 16 (nI j))) (tkK T L j) (tk_lt _ _ _) rfl (((vlV T L j))) rfl 59) gX6_read_X6_isSign rfl ⟨rfl, qX6_isSign⟩ ⟨Nat.le_of_ble_eq_true rfl, Nat.le_of_ble_eq_true rfl⟩ rfl rfl [0] rfl rfl hl.1 (Nat.le_of_ble_eq_true rfl) ⟨Nat.le_of_ble_eq_true rfl, Nat.le_of_ble_eq_true rfl⟩ dX6_read_140 ?_
            refine uV (nL := 5) (wr := [(r 1, .inl (ca 0, 38, .inl (rwN s))), (r 6, .inl (ca 0, 80, .inl (rwN T)))]) (ci := 4) (q0 := 0) (cq := (RX6, TX6, 34)) hx hb hml hown hts hK hA hP hD hS [.int (nI (bN (decide (tkK T L j = 2 ∧ ((vlV T L j)) = nI 59))))] [] (c_X6_accept_e l D ca m r ((upd (upd (upd (upd (upd g 12 (nI (nxT T L j))) 13 (nI j)) 14 (nI (tkK T L j))) 15 ((vlV T L j))) 16 (nI j))) ((nI j)) rfl (nI_n9 (by omega)) (nI (bN (decide (tkK T L j = 2 ∧ ((vlV T L j)) = nI 59))))) gX6_read_X6_accept rfl ⟨rfl, qX6_accept⟩ ⟨Nat.le_of_ble_eq_true rfl, Nat.le_of_ble_eq_true rfl⟩ rfl rfl [0] [1, 2] rfl rfl (by decide) (by decide) rfl hl.1 (Nat.le_of_ble_eq_true rfl) ⟨Nat.le_of_ble_eq_true rfl, Nat.le_of_ble_eq_true rfl⟩ dX6_read_143 (oneK (wsN := [(m, .inr (4, mF r (upd (upd (upd (upd (upd g 12 (nI (nxT T L j))) 13 (nI j)) 14 (nI (tkK T L j))) 15 ((vlV T L j))) 16 (nI j)))), (r 1, .inl (ca 0, 38, .inl (rwN s))), (r 6, .inl (ca 0, 80, .inl (rwN T)))]) [2, 0, 1] (by decide) rfl (st1 := [.int ((vlV T L j))]) rfl 0 0 rfl rfl (fun H locs hP hD hS => ?_))
            refine lv_pop hx hb dX6_read_146 rfl ?_
            refine lv_iload_n hx hb dX6_read_147 rfl (lv_at hl 2 rfl) ?_
            refine lv_iload_n hx hb dX6_read_148 rfl (lv_at hl 4 rfl) ?_
            refine n_if_eq (tgt := 162) hx hb dX6_read_149 (by decide) (by decide) (fun _ => ?_) (fun q => absurd q (by decide))
            refine lv_iconst (v := nI 0) hx hb dX6_read_162 (by decide) ?_
            refine n_iadd hx hb dX6_read_163 ?_
            refine lv_istore_n (lv' := [(2, .int (nI 0)), (4, .int (nI 1)), (3, .int ((vlV T L j))), (0, .ref m), (1, .int (nI 0))]) hx hb dX6_read_164 rfl hl (by decide) rfl (fun ls hl => ?_)
            refine lv_goto (tgt := 32) hx hb dX6_read_165 (by decide) ?_
            refine lv_aload_n hx hb dX6_read_32 rfl (lv_at hl 3 rfl) ?_
            refine va_get (D := D) (ci := 4) (v := .int (nI j)) (C := RX6) (T := TX6) (N := 34) hx hb hts hinX60 hown hK.1 hP 0 rfl rfl 16 (by decide) (hts (.fieldLink RX6 162 "RenamingGridModel" "error" "I") (List.mem_of_getElem? (i := 1) rfl)) (fun _ h9 => h9) rfl dX6_read_33 ?_
            refine lv_bipush (v := -9) hx hb dX6_read_36 (by decide) ?_
            refine lv_icmp_ne (tgt := 168) hx hb dX6_read_38 (by decide) (fun c38 => ?_) (fun c38 => absurd c38 (nI_n9 (by omega)))
            refine lv_iload_n hx hb dX6_read_168 rfl (lv_at hl 0 rfl) ?_
            exact uRetI hx hb hr hlocks hK hP hD hS ⟨_, _, rfl, (scr_u (by decide) (scr_u (by decide) (scr_u (by decide) (scr_u (by decide) (scr_u (by decide) (scr_r _)))))), (by rw [hE]; exact (n9_s _).symm), rfl⟩ (Nat.le_of_ble_eq_true rfl) (Nat.le_of_ble_eq_true rfl) dX6_read_169
          · refine lv_aload_n hx hb dX6_read_57 rfl (lv_at hl 1 rfl) ?_
            refine lv_aload_n hx hb dX6_read_58 rfl (lv_at hl 1 rfl) ?_
            refine va_get (D := D) (ci := 4) (v := .int ((vlV T L j))) (C := RX6) (T := TX6) (N := 34) hx hb hts hinX60 hown hK.1 hP 0 rfl rfl 15 (by decide) (hts (.fieldLink RX6 156 "RenamingGridModel" "value" "I") (List.mem_of_getElem? (i := 5) rfl)) (fun _ h9 => h9) rfl dX6_read_59 ?_
            refine rdV (nL := 5) (ci := 4) (q0 := 0) (cq := (RX6, TX6, 34)) hx hb hml hown hts hK hP [.int ((vlV T L j))] [.ref m] (c_X6_isProcess l D ca m r ((upd (upd (upd (upd (upd g 12 (nI (nxT T L j))) 13 (nI j)) 14 (nI (tkK T L j))) 15 ((vlV T L j))) 16 ((-9)))) s S hs hok ((vlV T L j))) gX6_read_X6_isProcess rfl ⟨rfl, qX6_isProcess⟩ ⟨Nat.le_of_ble_eq_true rfl, Nat.le_of_ble_eq_true rfl⟩ rfl rfl [0, 1] rfl rfl hl.1 (Nat.le_of_ble_eq_true rfl) ⟨Nat.le_of_ble_eq_true rfl, Nat.le_of_ble_eq_true rfl⟩ dX6_read_62 ?_
            refine n_if_eq (tgt := 72) hx hb dX6_read_65 (by decide) (bN_b _) (fun c65 => ?_) (fun c65 => ?_)
            · rw [bN_0] at c65
              have hE : (rdF T L (S 1) L 0 0 X0).1 = j + 1 := rE0 (congrArg Prod.fst hrj) htj hjL (af_n (by have := hok.2.1; omega) (fun z => c65 z.2))
              refine lv_iconst (v := nI 0) hx hb dX6_read_72 (by decide) ?_
              refine uV (nL := 5) (wr := [(r 1, .inl (ca 0, 38, .inl (rwN s))), (r 6, .inl (ca 0, 80, .inl (rwN T)))]) (ci := 4) (q0 := 0) (cq := (RX6, TX6, 34)) hx hb hml hown hts hK hA hP hD hS [.int (nI 0)] [] (c_X6_accept_0 l D ca m r ((upd (upd (upd (upd (upd g 12 (nI (nxT T L j))) 13 (nI j)) 14 (nI (tkK T L j))) 15 ((vlV T L j))) 16 ((-9)))) rfl) gX6_read_X6_accept rfl ⟨rfl, qX6_accept⟩ ⟨Nat.le_of_ble_eq_true rfl, Nat.le_of_ble_eq_true rfl⟩ rfl rfl [0] [1, 2] rfl rfl (by decide) (by decide) rfl hl.1 (Nat.le_of_ble_eq_true rfl) ⟨Nat.le_of_ble_eq_true rfl, Nat.le_of_ble_eq_true rfl⟩ dX6_read_73 (oneK (wsN := [(m, .inr (4, mF r (upd (upd (upd (upd (upd g 12 (nI (nxT T L j))) 13 (nI j)) 14 (nI (tkK T L j))) 15 ((vlV T L j))) 16 (nI j)))), (r 1, .inl (ca 0, 38, .inl (rwN s))), (r 6, .inl (ca 0, 80, .inl (rwN T)))]) [2, 0, 1] (by decide) rfl (st1 := [.int ((vlV T L j))]) rfl 0 0 rfl rfl (fun H locs hP hD hS => ?_))
              refine lv_istore_n (lv' := [(3, .int ((vlV T L j))), (2, .int (nI 0)), (0, .ref m), (1, .int (nI 0))]) hx hb dX6_read_76 rfl hl (by decide) rfl (fun ls hl => ?_)
              refine lv_iconst (v := nI 1) hx hb dX6_read_77 (by decide) ?_
              refine lv_istore (lv' := [(4, .int (nI 1)), (3, .int ((vlV T L j))), (2, .int (nI 0)), (0, .ref m), (1, .int (nI 0))]) hx hb dX6_read_78 hl (by decide) rfl (fun ls hl => ?_)
              refine lv_aload_n hx hb dX6_read_80 rfl (lv_at hl 3 rfl) ?_
              refine va_get (D := D) (ci := 4) (v := .int (nI j)) (C := RX6) (T := TX6) (N := 34) hx hb hts hinX60 hown hK.1 hP 0 rfl rfl 16 (by decide) (hts (.fieldLink RX6 162 "RenamingGridModel" "error" "I") (List.mem_of_getElem? (i := 1) rfl)) (fun _ h9 => h9) rfl dX6_read_81 ?_
              refine lv_bipush (v := -9) hx hb dX6_read_84 (by decide) ?_
              refine lv_icmp_ne (tgt := 136) hx hb dX6_read_86 (by decide) (fun c86 => ?_) (fun c86 => absurd c86 (nI_n9 (by omega)))
              refine lv_aload_n hx hb dX6_read_136 rfl (lv_at hl 3 rfl) ?_
              refine lv_aload_n hx hb dX6_read_137 rfl (lv_at hl 3 rfl) ?_
              refine lv_bipush (v := nI 59) hx hb dX6_read_138 (by decide) ?_
              refine rdV (nL := 5) (ci := 4) (q0 := 0) (cq := (RX6, TX6, 34)) hx hb hml hown hts hK hP [.int (nI 59)] [.ref m] (c_X6_isSign l D ca m r ((upd (upd (upd (upd (upd g 12 (nI (nxT T L j))) 13 (nI j)) 14 (nI (tkK T L j))) 15 ((vlV T L j))) 16 (nI j))) (tkK T L j) (tk_lt _ _ _) rfl (((vlV T L j))) rfl 59) gX6_read_X6_isSign rfl ⟨rfl, qX6_isSign⟩ ⟨Nat.le_of_ble_eq_true rfl, Nat.le_of_ble_eq_true rfl⟩ rfl rfl [0] rfl rfl hl.1 (Nat.le_of_ble_eq_true rfl) ⟨Nat.le_of_ble_eq_true rfl, Nat.le_of_ble_eq_true rfl⟩ dX6_read_140 ?_
              refine uV (nL := 5) (wr := [(r 1, .inl (ca 0, 38, .inl (rwN s))), (r 6, .inl (ca 0, 80, .inl (rwN T)))]) (ci := 4) (q0 := 0) (cq := (RX6, TX6, 34)) hx hb hml hown hts hK hA hP hD hS [.int (nI (bN (decide (tkK T L j = 2 ∧ ((vlV T L j)) = nI 59))))] [] (c_X6_accept_e l D ca m r ((upd (upd (upd (upd (upd g 12 (nI (nxT T L j))) 13 (nI j)) 14 (nI (tkK T L j))) 15 ((vlV T L j))) 16 (nI j))) ((nI j)) rfl (nI_n9 (by omega)) (nI (bN (decide (tkK T L j = 2 ∧ ((vlV T L j)) = nI 59))))) gX6_read_X6_accept rfl ⟨rfl, qX6_accept⟩ ⟨Nat.le_of_ble_eq_true rfl, Nat.le_of_ble_eq_true rfl⟩ rfl rfl [0] [1, 2] rfl rfl (by decide) (by decide) rfl hl.1 (Nat.le_of_ble_eq_true rfl) ⟨Nat.le_of_ble_eq_true rfl, Nat.le_of_ble_eq_true rfl⟩ dX6_read_143 (oneK (wsN := [(m, .inr (4, mF r (upd (upd (upd (upd (upd g 12 (nI (nxT T L j))) 13 (nI j)) 14 (nI (tkK T L j))) 15 ((vlV T L j))) 16 (nI j)))), (r 1, .inl (ca 0, 38, .inl (rwN s))), (r 6, .inl (ca 0, 80, .inl (rwN T)))]) [2, 0, 1] (by decide) rfl (st1 := [.int ((vlV T L j))]) rfl 0 0 rfl rfl (fun H locs hP hD hS => ?_))
              refine lv_pop hx hb dX6_read_146 rfl ?_
              refine lv_iload_n hx hb dX6_read_147 rfl (lv_at hl 2 rfl) ?_
              refine lv_iload_n hx hb dX6_read_148 rfl (lv_at hl 4 rfl) ?_
              refine n_if_eq (tgt := 162) hx hb dX6_read_149 (by decide) (by decide) (fun _ => ?_) (fun q => absurd q (by decide))
              refine lv_iconst (v := nI 0) hx hb dX6_read_162 (by decide) ?_
              refine n_iadd hx hb dX6_read_163 ?_
              refine lv_istore_n (lv' := [(2, .int (nI 0)), (4, .int (nI 1)), (3, .int ((vlV T L j))), (0, .ref m), (1, .int (nI 0))]) hx hb dX6_read_164 rfl hl (by decide) rfl (fun ls hl => ?_)
              refine lv_goto (tgt := 32) hx hb dX6_read_165 (by decide) ?_
              refine lv_aload_n hx hb dX6_read_32 rfl (lv_at hl 3 rfl) ?_
              refine va_get (D := D) (ci := 4) (v := .int (nI j)) (C := RX6) (T := TX6) (N := 34) hx hb hts hinX60 hown hK.1 hP 0 rfl rfl 16 (by decide) (hts (.fieldLink RX6 162 "RenamingGridModel" "error" "I") (List.mem_of_getElem? (i := 1) rfl)) (fun _ h9 => h9) rfl dX6_read_33 ?_
              refine lv_bipush (v := -9) hx hb dX6_read_36 (by decide) ?_
              refine lv_icmp_ne (tgt := 168) hx hb dX6_read_38 (by decide) (fun c38 => ?_) (fun c38 => absurd c38 (nI_n9 (by omega)))
              refine lv_iload_n hx hb dX6_read_168 rfl (lv_at hl 0 rfl) ?_
              exact uRetI hx hb hr hlocks hK hP hD hS ⟨_, _, rfl, (scr_u (by decide) (scr_u (by decide) (scr_u (by decide) (scr_u (by decide) (scr_u (by decide) (scr_r _)))))), (by rw [hE]; exact (n9_s _).symm), rfl⟩ (Nat.le_of_ble_eq_true rfl) (Nat.le_of_ble_eq_true rfl) dX6_read_169
            · rw [bN_1] at c65
              have hnum := (pr_iff (by have := hok.2.1; omega) c54).mp c65
              obtain ⟨p, hpd⟩ : ∃ z, z = num T L j - 1 := ⟨_, rfl⟩
              have hpS : p < S 1 := by omega
              refine lv_iconst (v := nI 1) hx hb dX6_read_68 (by decide) ?_
              refine lv_goto (tgt := 73) hx hb dX6_read_69 (by decide) ?_
              refine uV (nL := 5) (wr := [(r 1, .inl (ca 0, 38, .inl (rwN s)))]) (ci := 4) (q0 := 0) (cq := (RX6, TX6, 34)) hx hb hml hown hts hK hA hP hD hS [.int (nI 1)] [] (c_X6_accept_1 l D ca m r ((upd (upd (upd (upd (upd g 12 (nI (nxT T L j))) 13 (nI j)) 14 (nI (tkK T L j))) 15 ((vlV T L j))) 16 ((-9)))) L hg7 T hL hT (nxT T L j) rfl (nxT_le htj.1).2 rfl) gX6_read_X6_accept rfl ⟨rfl, qX6_accept⟩ ⟨Nat.le_of_ble_eq_true rfl, Nat.le_of_ble_eq_true rfl⟩ rfl rfl [0, 2] [1] rfl rfl (by decide) (by decide) rfl hl.1 (Nat.le_of_ble_eq_true rfl) ⟨Nat.le_of_ble_eq_true rfl, Nat.le_of_ble_eq_true rfl⟩ dX6_read_73 (oneK (wsN := [(m, .inr (4, mF r (upd (upd (upd (upd (upd g 12 (nI (nxT T L (skN T L (nxT T L j))))) 13 (nI (skN T L (nxT T L j)))) 14 (nI (tkK T L (skN T L (nxT T L j))))) 15 ((vlV T L (skN T L (nxT T L j))))) 16 ((-9))))), (r 1, .inl (ca 0, 38, .inl (rwN s))), (r 6, .inl (ca 0, 80, .inl (rwN T)))]) [1, 0, 2] (by decide) rfl (st1 := [.int ((vlV T L j))]) rfl 0 0 rfl rfl (fun H locs hP hD hS => ?_))
              have gj1 := go_x (E2 := 1) (X2 := adI X p 1) hrj htj (cc_n1 c54) (by rw [hpd]; exact af_0y hnum) (by decide)
              obtain ⟨j1, hdj1⟩ : ∃ z, z = skN T L (nxT T L j) := ⟨_, rfl⟩
              rw [← hdj1] at gj1 hP hD
              obtain ⟨hrj1, htj1, hltj1⟩ := gj1
              have hlej1 := htj1.1
              have hP : va_P D vwCl [(m, .inr (4, mF r (upd (upd (upd (upd (upd g 12 (nI (nxT T L j1))) 13 (nI j1)) 14 (nI (tkK T L j1))) 15 ((vlV T L j1))) 16 ((-9))))), (r 1, .inl (ca 0, 38, .inl (rwN s))), (r 6, .inl (ca 0, 80, .inl (rwN T)))] H := hP
              have hD : va_D A [(m, .inr (4, mF r (upd (upd (upd (upd (upd g 12 (nI (nxT T L j1))) 13 (nI j1)) 14 (nI (tkK T L j1))) 15 ((vlV T L j1))) 16 ((-9))))), (r 1, .inl (ca 0, 38, .inl (rwN s))), (r 6, .inl (ca 0, 80, .inl (rwN T)))] := hD
              rw [show ((vlV T L j)) = (nI p) from (by rw [pr_v c54 hnum.1, hpd])]
              refine lv_istore_n (lv' := [(3, .int (nI p)), (2, .int (nI 0)), (0, .ref m), (1, .int (nI 0))]) hx hb dX6_read_76 rfl hl (by decide) rfl (fun ls hl => ?_)
              refine lv_iconst (v := nI 1) hx hb dX6_read_77 (by decide) ?_
              refine lv_istore (lv' := [(4, .int (nI 1)), (3, .int (nI p)), (2, .int (nI 0)), (0, .ref m), (1, .int (nI 0))]) hx hb dX6_read_78 hl (by decide) rfl (fun ls hl => ?_)
              refine lv_aload_n hx hb dX6_read_80 rfl (lv_at hl 3 rfl) ?_
              refine va_get (D := D) (ci := 4) (v := .int ((-9))) (C := RX6) (T := TX6) (N := 34) hx hb hts hinX60 hown hK.1 hP 0 rfl rfl 16 (by decide) (hts (.fieldLink RX6 162 "RenamingGridModel" "error" "I") (List.mem_of_getElem? (i := 1) rfl)) (fun _ h9 => h9) rfl dX6_read_81 ?_
              refine lv_bipush (v := -9) hx hb dX6_read_84 (by decide) ?_
              refine lv_icmp_ne (tgt := 136) hx hb dX6_read_86 (by decide) (fun c86 => absurd c86 (fun z => z rfl)) (fun c86 => ?_)
              refine lv_aload_n hx hb dX6_read_89 rfl (lv_at hl 3 rfl) ?_
              refine lv_bipush (v := nI 42) hx hb dX6_read_90 (by decide) ?_
              refine rdV (nL := 5) (ci := 4) (q0 := 0) (cq := (RX6, TX6, 34)) hx hb hml hown hts hK hP [.int (nI 42)] [] (c_X6_isSign l D ca m r ((upd (upd (upd (upd (upd g 12 (nI (nxT T L j1))) 13 (nI j1)) 14 (nI (tkK T L j1))) 15 ((vlV T L j1))) 16 ((-9)))) (tkK T L j1) (tk_lt _ _ _) rfl (((vlV T L j1))) rfl 42) gX6_read_X6_isSign rfl ⟨rfl, qX6_isSign⟩ ⟨Nat.le_of_ble_eq_true rfl, Nat.le_of_ble_eq_true rfl⟩ rfl rfl [0] rfl rfl hl.1 (Nat.le_of_ble_eq_true rfl) ⟨Nat.le_of_ble_eq_true rfl, Nat.le_of_ble_eq_true rfl⟩ dX6_read_92 ?_
              refine n_if_eq (tgt := 136) hx hb dX6_read_95 (by decide) (bN_b _) (fun c95 => ?_) (fun c95 => ?_)
              · rw [bN_0] at c95
                have h43 : cc T L j1 ≠ 43 := fun z => c95 ((sg_iff hT (by decide) (by decide)).mpr z)
                refine lv_aload_n hx hb dX6_read_136 rfl (lv_at hl 3 rfl) ?_
                refine lv_aload_n hx hb dX6_read_137 rfl (lv_at hl 3 rfl) ?_
                refine lv_bipush (v := nI 59) hx hb dX6_read_138 (by decide) ?_
                refine rdV (nL := 5) (ci := 4) (q0 := 0) (cq := (RX6, TX6, 34)) hx hb hml hown hts hK hP [.int (nI 59)] [.ref m] (c_X6_isSign l D ca m r ((upd (upd (upd (upd (upd g 12 (nI (nxT T L j1))) 13 (nI j1)) 14 (nI (tkK T L j1))) 15 ((vlV T L j1))) 16 ((-9)))) (tkK T L j1) (tk_lt _ _ _) rfl (((vlV T L j1))) rfl 59) gX6_read_X6_isSign rfl ⟨rfl, qX6_isSign⟩ ⟨Nat.le_of_ble_eq_true rfl, Nat.le_of_ble_eq_true rfl⟩ rfl rfl [0] rfl rfl hl.1 (Nat.le_of_ble_eq_true rfl) ⟨Nat.le_of_ble_eq_true rfl, Nat.le_of_ble_eq_true rfl⟩ dX6_read_140 ?_
                by_cases h59 : tkK T L j1 = 2 ∧ vlV T L j1 = nI 59
                · rw [show (nI (bN (decide (tkK T L j1 = 2 ∧ ((vlV T L j1)) = nI 59)))) = (nI 1) from (congrArg nI (bN_t h59))]
                  have h60 : cc T L j1 = 60 := (sg_iff hT (by decide) (by decide)).mp h59
                  refine uV (nL := 5) (wr := [(r 1, .inl (ca 0, 38, .inl (rwN s)))]) (ci := 4) (q0 := 0) (cq := (RX6, TX6, 34)) hx hb hml hown hts hK hA hP hD hS [.int (nI 1)] [] (c_X6_accept_1 l D ca m r ((upd (upd (upd (upd (upd g 12 (nI (nxT T L j1))) 13 (nI j1)) 14 (nI (tkK T L j1))) 15 ((vlV T L j1))) 16 ((-9)))) L hg7 T hL hT (nxT T L j1) rfl (nxT_le htj1.1).2 rfl) gX6_read_X6_accept rfl ⟨rfl, qX6_accept⟩ ⟨Nat.le_of_ble_eq_true rfl, Nat.le_of_ble_eq_true rfl⟩ rfl rfl [0, 2] [1] rfl rfl (by decide) (by decide) rfl hl.1 (Nat.le_of_ble_eq_true rfl) ⟨Nat.le_of_ble_eq_true rfl, Nat.le_of_ble_eq_true rfl⟩ dX6_read_143 (oneK (wsN := [(m, .inr (4, mF r (upd (upd (upd (upd (upd g 12 (nI (nxT T L (skN T L (nxT T L j1))))) 13 (nI (skN T L (nxT T L j1)))) 14 (nI (tkK T L (skN T L (nxT T L j1))))) 15 ((vlV T L (skN T L (nxT T L j1))))) 16 ((-9))))), (r 1, .inl (ca 0, 38, .inl (rwN s))), (r 6, .inl (ca 0, 80, .inl (rwN T)))]) [1, 0, 2] (by decide) rfl (st1 := [.int ((vlV T L j1))]) rfl 0 0 rfl rfl (fun H locs hP hD hS => ?_))
                  have gj4 := go_x (E2 := 0) (X2 := adI X p 1) hrj1 htj1 (by omega) (af_1e h60) (by decide)
                  obtain ⟨j4, hdj4⟩ : ∃ z, z = skN T L (nxT T L j1) := ⟨_, rfl⟩
                  rw [← hdj4] at gj4 hP hD
                  obtain ⟨hrj4, htj4, hltj4⟩ := gj4
                  have hlej4 := htj4.1
                  have hP : va_P D vwCl [(m, .inr (4, mF r (upd (upd (upd (upd (upd g 12 (nI (nxT T L j4))) 13 (nI j4)) 14 (nI (tkK T L j4))) 15 ((vlV T L j4))) 16 ((-9))))), (r 1, .inl (ca 0, 38, .inl (rwN s))), (r 6, .inl (ca 0, 80, .inl (rwN T)))] H := hP
                  have hD : va_D A [(m, .inr (4, mF r (upd (upd (upd (upd (upd g 12 (nI (nxT T L j4))) 13 (nI j4)) 14 (nI (tkK T L j4))) 15 ((vlV T L j4))) 16 ((-9))))), (r 1, .inl (ca 0, 38, .inl (rwN s))), (r 6, .inl (ca 0, 80, .inl (rwN T)))] := hD
                  refine lv_pop hx hb dX6_read_146 rfl ?_
                  refine lv_iload_n hx hb dX6_read_147 rfl (lv_at hl 2 rfl) ?_
                  refine lv_iload_n hx hb dX6_read_148 rfl (lv_at hl 4 rfl) ?_
                  refine n_if_eq (tgt := 162) hx hb dX6_read_149 (by decide) (by decide) (fun _ => ?_) (fun q => absurd q (by decide))
                  refine lv_iconst (v := nI 0) hx hb dX6_read_162 (by decide) ?_
                  refine n_iadd hx hb dX6_read_163 ?_
                  refine lv_istore_n (lv' := [(2, .int (nI 0)), (4, .int (nI 1)), (3, .int (nI p)), (0, .ref m), (1, .int (nI 0))]) hx hb dX6_read_164 rfl hl (by decide) rfl (fun ls hl => ?_)
                  refine lv_goto (tgt := 32) hx hb dX6_read_165 (by decide) ?_
                  exact ih32 j4 ((adI X p 1)) htj4 hrj4 (Or.inl (Nat.succ_pos X.1)) htj4.1 (by omega) H locs hP hD hS ls (lv_sub hl [0, 3, 4] rfl)
                · rw [show (nI (bN (decide (tkK T L j1 = 2 ∧ ((vlV T L j1)) = nI 59)))) = (nI 0) from (congrArg nI (bN_f h59))]
                  have h60 : cc T L j1 ≠ 60 := fun z => h59 ((sg_iff hT (by decide) (by decide)).mpr z)
                  have hE : (rdF T L (S 1) L 0 0 X0).1 = j1 + 1 := rE (congrArg Prod.fst hrj1) htj1 (by decide) (af_1n h43 h60)
                  refine uV (nL := 5) (wr := [(r 1, .inl (ca 0, 38, .inl (rwN s))), (r 6, .inl (ca 0, 80, .inl (rwN T)))]) (ci := 4) (q0 := 0) (cq := (RX6, TX6, 34)) hx hb hml hown hts hK hA hP hD hS [.int (nI 0)] [] (c_X6_accept_0 l D ca m r ((upd (upd (upd (upd (upd g 12 (nI (nxT T L j1))) 13 (nI j1)) 14 (nI (tkK T L j1))) 15 ((vlV T L j1))) 16 ((-9)))) rfl) gX6_read_X6_accept rfl ⟨rfl, qX6_accept⟩ ⟨Nat.le_of_ble_eq_true rfl, Nat.le_of_ble_eq_true rfl⟩ rfl rfl [0] [1, 2] rfl rfl (by decide) (by decide) rfl hl.1 (Nat.le_of_ble_eq_true rfl) ⟨Nat.le_of_ble_eq_true rfl, Nat.le_of_ble_eq_true rfl⟩ dX6_read_143 (oneK (wsN := [(m, .inr (4, mF r (upd (upd (upd (upd (upd g 12 (nI (nxT T L j1))) 13 (nI j1)) 14 (nI (tkK T L j1))) 15 ((vlV T L j1))) 16 (nI j1)))), (r 1, .inl (ca 0, 38, .inl (rwN s))), (r 6, .inl (ca 0, 80, .inl (rwN T)))]) [2, 0, 1] (by decide) rfl (st1 := [.int ((vlV T L j1))]) rfl 0 0 rfl rfl (fun H locs hP hD hS => ?_))
                  refine lv_pop hx hb dX6_read_146 rfl ?_
                  refine lv_iload_n hx hb dX6_read_147 rfl (lv_at hl 2 rfl) ?_
                  refine lv_iload_n hx hb dX6_read_148 rfl (lv_at hl 4 rfl) ?_
                  refine n_if_eq (tgt := 162) hx hb dX6_read_149 (by decide) (by decide) (fun _ => ?_) (fun q => absurd q (by decide))
                  refine lv_iconst (v := nI 0) hx hb dX6_read_162 (by decide) ?_
                  refine n_iadd hx hb dX6_read_163 ?_
                  refine lv_istore_n (lv' := [(2, .int (nI 0)), (4, .int (nI 1)), (3, .int (nI p)), (0, .ref m), (1, .int (nI 0))]) hx hb dX6_read_164 rfl hl (by decide) rfl (fun ls hl => ?_)
                  refine lv_goto (tgt := 32) hx hb dX6_read_165 (by decide) ?_
                  refine lv_aload_n hx hb dX6_read_32 rfl (lv_at hl 3 rfl) ?_
                  refine va_get (D := D) (ci := 4) (v := .int (nI j1)) (C := RX6) (T := TX6) (N := 34) hx hb hts hinX60 hown hK.1 hP 0 rfl rfl 16 (by decide) (hts (.fieldLink RX6 162 "RenamingGridModel" "error" "I") (List.mem_of_getElem? (i := 1) rfl)) (fun _ h9 => h9) rfl dX6_read_33 ?_
                  refine lv_bipush (v := -9) hx hb dX6_read_36 (by decide) ?_
                  refine lv_icmp_ne (tgt := 168) hx hb dX6_read_38 (by decide) (fun c38 => ?_) (fun c38 => absurd c38 (nI_n9 (by omega)))
                  refine lv_iload_n hx hb dX6_read_168 rfl (lv_at hl 0 rfl) ?_
                  exact uRetI hx hb hr hlocks hK hP hD hS ⟨_, _, rfl, (scr_u (by decide) (scr_u (by decide) (scr_u (by decide) (scr_u (by decide) (scr_u (by decide) (scr_r _)))))), (by rw [hE]; exact (n9_s _).symm), rfl⟩ (Nat.le_of_ble_eq_true rfl) (Nat.le_of_ble_eq_true rfl) dX6_read_169
              · rw [bN_1] at c95
                have h43 : cc T L j1 = 43 := (sg_iff hT (by decide) (by decide)).mp c95
                refine lv_aload_n hx hb dX6_read_98 rfl (lv_at hl 3 rfl) ?_
                refine lv_iconst (v := nI 1) hx hb dX6_read_99 (by decide) ?_
                refine uV (nL := 5) (wr := [(r 1, .inl (ca 0, 38, .inl (rwN s)))]) (ci := 4) (q0 := 0) (cq := (RX6, TX6, 34)) hx hb hml hown hts hK hA hP hD hS [.int (nI 1)] [] (c_X6_accept_1 l D ca m r ((upd (upd (upd (upd (upd g 12 (nI (nxT T L j1))) 13 (nI j1)) 14 (nI (tkK T L j1))) 15 ((vlV T L j1))) 16 ((-9)))) L hg7 T hL hT (nxT T L j1) rfl (nxT_le htj1.1).2 rfl) gX6_read_X6_accept rfl ⟨rfl, qX6_accept⟩ ⟨Nat.le_of_ble_eq_true rfl, Nat.le_of_ble_eq_true rfl⟩ rfl rfl [0, 2] [1] rfl rfl (by decide) (by decide) rfl hl.1 (Nat.le_of_ble_eq_true rfl) ⟨Nat.le_of_ble_eq_true rfl, Nat.le_of_ble_eq_true rfl⟩ dX6_read_100 (oneK (wsN := [(m, .inr (4, mF r (upd (upd (upd (upd (upd g 12 (nI (nxT T L (skN T L (nxT T L j1))))) 13 (nI (skN T L (nxT T L j1)))) 14 (nI (tkK T L (skN T L (nxT T L j1))))) 15 ((vlV T L (skN T L (nxT T L j1))))) 16 ((-9))))), (r 1, .inl (ca 0, 38, .inl (rwN s))), (r 6, .inl (ca 0, 80, .inl (rwN T)))]) [1, 0, 2] (by decide) rfl (st1 := [.int ((vlV T L j1))]) rfl 0 0 rfl rfl (fun H locs hP hD hS => ?_))
                have gj2 := go_x (E2 := 2) (X2 := adI X p 1) hrj1 htj1 (by omega) (af_1s h43) (by decide)
                obtain ⟨j2, hdj2⟩ : ∃ z, z = skN T L (nxT T L j1) := ⟨_, rfl⟩
                rw [← hdj2] at gj2 hP hD
                obtain ⟨hrj2, htj2, hltj2⟩ := gj2
                have hlej2 := htj2.1
                have hP : va_P D vwCl [(m, .inr (4, mF r (upd (upd (upd (upd (upd g 12 (nI (nxT T L j2))) 13 (nI j2)) 14 (nI (tkK T L j2))) 15 ((vlV T L j2))) 16 ((-9))))), (r 1, .inl (ca 0, 38, .inl (rwN s))), (r 6, .inl (ca 0, 80, .inl (rwN T)))] H := hP
                have hD : va_D A [(m, .inr (4, mF r (upd (upd (upd (upd (upd g 12 (nI (nxT T L j2))) 13 (nI j2)) 14 (nI (tkK T L j2))) 15 ((vlV T L j2))) 16 ((-9))))), (r 1, .inl (ca 0, 38, .inl (rwN s))), (r 6, .inl (ca 0, 80, .inl (rwN T)))] := hD
                refine lv_pop hx hb dX6_read_103 rfl ?_
                refine lv_aload_n hx hb dX6_read_104 rfl (lv_at hl 3 rfl) ?_
                refine lv_aload_n hx hb dX6_read_105 rfl (lv_at hl 3 rfl) ?_
                refine va_get (D := D) (ci := 4) (v := .int (nI (tkK T L j2))) (C := RX6) (T := TX6) (N := 34) hx hb hts hinX60 hown hK.1 hP 0 rfl rfl 14 (by decide) (hts (.fieldLink RX6 159 "RenamingGridModel" "token" "I") (List.mem_of_getElem? (i := 3) rfl)) (fun _ h9 => h9) rfl dX6_read_106 ?_
                refine lv_iconst (v := nI 1) hx hb dX6_read_109 (by decide) ?_
                refine n_ic_ne (tgt := 130) hx hb dX6_read_110 (by decide) (by have := tk_lt T L j2; omega) (by decide) (fun c110 => ?_) (fun c110 => ?_)
                · have hE : (rdF T L (S 1) L 0 0 X0).1 = j2 + 1 := rE (congrArg Prod.fst hrj2) htj2 (by decide) (af_c (fun z => c110 z.1))
                  refine lv_iconst (v := nI 0) hx hb dX6_read_130 (by decide) ?_
                  refine uV (nL := 5) (wr := [(r 1, .inl (ca 0, 38, .inl (rwN s))), (r 6, .inl (ca 0, 80, .inl (rwN T)))]) (ci := 4) (q0 := 0) (cq := (RX6, TX6, 34)) hx hb hml hown hts hK hA hP hD hS [.int (nI 0)] [] (c_X6_accept_0 l D ca m r ((upd (upd (upd (upd (upd g 12 (nI (nxT T L j2))) 13 (nI j2)) 14 (nI (tkK T L j2))) 15 ((vlV T L j2))) 16 ((-9)))) rfl) gX6_read_X6_accept rfl ⟨rfl, qX6_accept⟩ ⟨Nat.le_of_ble_eq_true rfl, Nat.le_of_ble_eq_true rfl⟩ rfl rfl [0] [1, 2] rfl rfl (by decide) (by decide) rfl hl.1 (Nat.le_of_ble_eq_true rfl) ⟨Nat.le_of_ble_eq_true rfl, Nat.le_of_ble_eq_true rfl⟩ dX6_read_131 (oneK (wsN := [(m, .inr (4, mF r (upd (upd (upd (upd (upd g 12 (nI (nxT T L j2))) 13 (nI j2)) 14 (nI (tkK T L j2))) 15 ((vlV T L j2))) 16 (nI j2)))), (r 1, .inl (ca 0, 38, .inl (rwN s))), (r 6, .inl (ca 0, 80, .inl (rwN T)))]) [2, 0, 1] (by decide) rfl (st1 := [.int ((vlV T L j2))]) rfl 0 0 rfl rfl (fun H locs hP hD hS => ?_))
                  refine lv_istore (lv' := [(4, .int ((vlV T L j2))), (3, .int (nI p)), (2, .int (nI 0)), (0, .ref m), (1, .int (nI 0))]) hx hb dX6_read_134 hl (by decide) rfl (fun ls hl => ?_)
                  refine lv_aload_n hx hb dX6_read_136 rfl (lv_at hl 3 rfl) ?_
                  refine lv_aload_n hx hb dX6_read_137 rfl (lv_at hl 3 rfl) ?_
                  refine lv_bipush (v := nI 59) hx hb dX6_read_138 (by decide) ?_
                  refine rdV (nL := 5) (ci := 4) (q0 := 0) (cq := (RX6, TX6, 34)) hx hb hml hown hts hK hP [.int (nI 59)] [.ref m] (c_X6_isSign l D ca m r ((upd (upd (upd (upd (upd g 12 (nI (nxT T L j2))) 13 (nI j2)) 14 (nI (tkK T L j2))) 15 ((vlV T L j2))) 16 (nI j2))) (tkK T L j2) (tk_lt _ _ _) rfl (((vlV T L j2))) rfl 59) gX6_read_X6_isSign rfl ⟨rfl, qX6_isSign⟩ ⟨Nat.le_of_ble_eq_true rfl, Nat.le_of_ble_eq_true rfl⟩ rfl rfl [0] rfl rfl hl.1 (Nat.le_of_ble_eq_true rfl) ⟨Nat.le_of_ble_eq_true rfl, Nat.le_of_ble_eq_true rfl⟩ dX6_read_140 ?_
                  refine uV (nL := 5) (wr := [(r 1, .inl (ca 0, 38, .inl (rwN s))), (r 6, .inl (ca 0, 80, .inl (rwN T)))]) (ci := 4) (q0 := 0) (cq := (RX6, TX6, 34)) hx hb hml hown hts hK hA hP hD hS [.int (nI (bN (decide (tkK T L j2 = 2 ∧ ((vlV T L j2)) = nI 59))))] [] (c_X6_accept_e l D ca m r ((upd (upd (upd (upd (upd g 12 (nI (nxT T L j2))) 13 (nI j2)) 14 (nI (tkK T L j2))) 15 ((vlV T L j2))) 16 (nI j2))) ((nI j2)) rfl (nI_n9 (by omega)) (nI (bN (decide (tkK T L j2 = 2 ∧ ((vlV T L j2)) = nI 59))))) gX6_read_X6_accept rfl ⟨rfl, qX6_accept⟩ ⟨Nat.le_of_ble_eq_true rfl, Nat.le_of_ble_eq_true rfl⟩ rfl rfl [0] [1, 2] rfl rfl (by decide) (by decide) rfl hl.1 (Nat.le_of_ble_eq_true rfl) ⟨Nat.le_of_ble_eq_true rfl, Nat.le_of_ble_eq_true rfl⟩ dX6_read_143 (oneK (wsN := [(m, .inr (4, mF r (upd (upd (upd (upd (upd g 12 (nI (nxT T L j2))) 13 (nI j2)) 14 (nI (tkK T L j2))) 15 ((vlV T L j2))) 16 (nI j2)))), (r 1, .inl (ca 0, 38, .inl (rwN s))), (r 6, .inl (ca 0, 80, .inl (rwN T)))]) [2, 0, 1] (by decide) rfl (st1 := [.int ((vlV T L j2))]) rfl 0 0 rfl rfl (fun H locs hP hD hS => ?_))
                  refine lv_pop hx hb dX6_read_146 rfl ?_
                  refine lv_iload_n hx hb dX6_read_147 rfl (lv_at hl 2 rfl) ?_
                  refine lv_iload_n hx hb dX6_read_148 rfl (lv_at hl 4 rfl) ?_
                  refine n_if_eq (tgt := 162) hx hb dX6_read_149 (by decide) (by decide) (fun _ => ?_) (fun q => absurd q (by decide))
                  refine lv_iconst (v := nI 0) hx hb dX6_read_162 (by decide) ?_
                  refine n_iadd hx hb dX6_read_163 ?_
                  refine lv_istore_n (lv' := [(2, .int (nI 0)), (4, .int ((vlV T L j2))), (3, .int (nI p)), (0, .ref m), (1, .int (nI 0))]) hx hb dX6_read_164 rfl hl (by decide) rfl (fun ls hl => ?_)
                  refine lv_goto (tgt := 32) hx hb dX6_read_165 (by decide) ?_
                  refine lv_aload_n hx hb dX6_read_32 rfl (lv_at hl 3 rfl) ?_
                  refine va_get (D := D) (ci := 4) (v := .int (nI j2)) (C := RX6) (T := TX6) (N := 34) hx hb hts hinX60 hown hK.1 hP 0 rfl rfl 16 (by decide) (hts (.fieldLink RX6 162 "RenamingGridModel" "error" "I") (List.mem_of_getElem? (i := 1) rfl)) (fun _ h9 => h9) rfl dX6_read_33 ?_
                  refine lv_bipush (v := -9) hx hb dX6_read_36 (by decide) ?_
                  refine lv_icmp_ne (tgt := 168) hx hb dX6_read_38 (by decide) (fun c38 => ?_) (fun c38 => absurd c38 (nI_n9 (by omega)))
                  refine lv_iload_n hx hb dX6_read_168 rfl (lv_at hl 0 rfl) ?_
                  exact uRetI hx hb hr hlocks hK hP hD hS ⟨_, _, rfl, (scr_u (by decide) (scr_u (by decide) (scr_u (by decide) (scr_u (by decide) (scr_u (by decide) (scr_r _)))))), (by rw [hE]; exact (n9_s _).symm), rfl⟩ (Nat.le_of_ble_eq_true rfl) (Nat.le_of_ble_eq_true rfl) dX6_read_169
                · refine lv_aload_n hx hb dX6_read_113 rfl (lv_at hl 3 rfl) ?_
                  refine va_get (D := D) (ci := 4) (v := .int ((vlV T L j2))) (C := RX6) (T := TX6) (N := 34) hx hb hts hinX60 hown hK.1 hP 0 rfl rfl 15 (by decide) (hts (.fieldLink RX6 156 "RenamingGridModel" "value" "I") (List.mem_of_getElem? (i := 5) rfl)) (fun _ h9 => h9) rfl dX6_read_114 ?_
                  refine lv_iconst (v := nI 1) hx hb dX6_read_117 (by decide) ?_
                  refine lv_bipush (v := nI 30) hx hb dX6_read_118 (by decide) ?_
                  refine rdS (nL := 5) hx hb hml hown hts hK hP [.int ((vlV T L j2)), .int (nI 1), .int (nI 30)] [.ref m] (c_X6_in l D ca ((vlV T L j2)) (nI 1) (nI 30)) gX6_read_X6_in rfl qX6_in ⟨Nat.le_of_ble_eq_true rfl, Nat.le_of_ble_eq_true rfl⟩ [] rfl rfl hl.1 (Nat.le_of_ble_eq_true rfl) ⟨Nat.le_of_ble_eq_true rfl, Nat.le_of_ble_eq_true rfl⟩ dX6_read_120 ?_
                  refine n_if_eq (tgt := 130) hx hb dX6_read_123 (by decide) (bN_b _) (fun c123 => ?_) (fun c123 => ?_)
                  · rw [bN_0] at c123
                    have hE : (rdF T L (S 1) L 0 0 X0).1 = j2 + 1 := rE (congrArg Prod.fst hrj2) htj2 (by decide) (af_c (fun z => c123 z.2))
                    refine lv_iconst (v := nI 0) hx hb dX6_read_130 (by decide) ?_
                    refine uV (nL := 5) (wr := [(r 1, .inl (ca 0, 38, .inl (rwN s))), (r 6, .inl (ca 0, 80, .inl (rwN T)))]) (ci := 4) (q0 := 0) (cq := (RX6, TX6, 34)) hx hb hml hown hts hK hA hP hD hS [.int (nI 0)] [] (c_X6_accept_0 l D ca m r ((upd (upd (upd (upd (upd g 12 (nI (nxT T L j2))) 13 (nI j2)) 14 (nI (tkK T L j2))) 15 ((vlV T L j2))) 16 ((-9)))) rfl) gX6_read_X6_accept rfl ⟨rfl, qX6_accept⟩ ⟨Nat.le_of_ble_eq_true rfl, Nat.le_of_ble_eq_true rfl⟩ rfl rfl [0] [1, 2] rfl rfl (by decide) (by decide) rfl hl.1 (Nat.le_of_ble_eq_true rfl) ⟨Nat.le_of_ble_eq_true rfl, Nat.le_of_ble_eq_true rfl⟩ dX6_read_131 (oneK (wsN := [(m, .inr (4, mF r (upd (upd (upd (upd (upd g 12 (nI (nxT T L j2))) 13 (nI j2)) 14 (nI (tkK T L j2))) 15 ((vlV T L j2))) 16 (nI j2)))), (r 1, .inl (ca 0, 38, .inl (rwN s))), (r 6, .inl (ca 0, 80, .inl (rwN T)))]) [2, 0, 1] (by decide) rfl (st1 := [.int ((vlV T L j2))]) rfl 0 0 rfl rfl (fun H locs hP hD hS => ?_))
                    refine lv_istore (lv' := [(4, .int ((vlV T L j2))), (3, .int (nI p)), (2, .int (nI 0)), (0, .ref m), (1, .int (nI 0))]) hx hb dX6_read_134 hl (by decide) rfl (fun ls hl => ?_)
                    refine lv_aload_n hx hb dX6_read_136 rfl (lv_at hl 3 rfl) ?_
                    refine lv_aload_n hx hb dX6_read_137 rfl (lv_at hl 3 rfl) ?_
                    refine lv_bipush (v := nI 59) hx hb dX6_read_138 (by decide) ?_
                    refine rdV (nL := 5) (ci := 4) (q0 := 0) (cq := (RX6, TX6, 34)) hx hb hml hown hts hK hP [.int (nI 59)] [.ref m] (c_X6_isSign l D ca m r ((upd (upd (upd (upd (upd g 12 (nI (nxT T L j2))) 13 (nI j2)) 14 (nI (tkK T L j2))) 15 ((vlV T L j2))) 16 (nI j2))) (tkK T L j2) (tk_lt _ _ _) rfl (((vlV T L j2))) rfl 59) gX6_read_X6_isSign rfl ⟨rfl, qX6_isSign⟩ ⟨Nat.le_of_ble_eq_true rfl, Nat.le_of_ble_eq_true rfl⟩ rfl rfl [0] rfl rfl hl.1 (Nat.le_of_ble_eq_true rfl) ⟨Nat.le_of_ble_eq_true rfl, Nat.le_of_ble_eq_true rfl⟩ dX6_read_140 ?_
                    refine uV (nL := 5) (wr := [(r 1, .inl (ca 0, 38, .inl (rwN s))), (r 6, .inl (ca 0, 80, .inl (rwN T)))]) (ci := 4) (q0 := 0) (cq := (RX6, TX6, 34)) hx hb hml hown hts hK hA hP hD hS [.int (nI (bN (decide (tkK T L j2 = 2 ∧ ((vlV T L j2)) = nI 59))))] [] (c_X6_accept_e l D ca m r ((upd (upd (upd (upd (upd g 12 (nI (nxT T L j2))) 13 (nI j2)) 14 (nI (tkK T L j2))) 15 ((vlV T L j2))) 16 (nI j2))) ((nI j2)) rfl (nI_n9 (by omega)) (nI (bN (decide (tkK T L j2 = 2 ∧ ((vlV T L j2)) = nI 59))))) gX6_read_X6_accept rfl ⟨rfl, qX6_accept⟩ ⟨Nat.le_of_ble_eq_true rfl, Nat.le_of_ble_eq_true rfl⟩ rfl rfl [0] [1, 2] rfl rfl (by decide) (by decide) rfl hl.1 (Nat.le_of_ble_eq_true rfl) ⟨Nat.le_of_ble_eq_true rfl, Nat.le_of_ble_eq_true rfl⟩ dX6_read_143 (oneK (wsN := [(m, .inr (4, mF r (upd (upd (upd (upd (upd g 12 (nI (nxT T L j2))) 13 (nI j2)) 14 (nI (tkK T L j2))) 15 ((vlV T L j2))) 16 (nI j2)))), (r 1, .inl (ca 0, 38, .inl (rwN s))), (r 6, .inl (ca 0, 80, .inl (rwN T)))]) [2, 0, 1] (by decide) rfl (st1 := [.int ((vlV T L j2))]) rfl 0 0 rfl rfl (fun H locs hP hD hS => ?_))
                    refine lv_pop hx hb dX6_read_146 rfl ?_
                    refine lv_iload_n hx hb dX6_read_147 rfl (lv_at hl 2 rfl) ?_
                    refine lv_iload_n hx hb dX6_read_148 rfl (lv_at hl 4 rfl) ?_
                    refine n_if_eq (tgt := 162) hx hb dX6_read_149 (by decide) (by decide) (fun _ => ?_) (fun q => absurd q (by decide))
                    refine lv_iconst (v := nI 0) hx hb dX6_read_162 (by decide) ?_
                    refine n_iadd hx hb dX6_read_163 ?_
                    refine lv_istore_n (lv' := [(2, .int (nI 0)), (4, .int ((vlV T L j2))), (3, .int (nI p)), (0, .ref m), (1, .int (nI 0))]) hx hb dX6_read_164 rfl hl (by decide) rfl (fun ls hl => ?_)
                    refine lv_goto (tgt := 32) hx hb dX6_read_165 (by decide) ?_
                    refine lv_aload_n hx hb dX6_read_32 rfl (lv_at hl 3 rfl) ?_
                    refine va_get (D := D) (ci := 4) (v := .int (nI j2)) (C := RX6) (T := TX6) (N := 34) hx hb hts hinX60 hown hK.1 hP 0 rfl rfl 16 (by decide) (hts (.fieldLink RX6 162 "RenamingGridModel" "error" "I") (List.mem_of_getElem? (i := 1) rfl)) (fun _ h9 => h9) rfl dX6_read_33 ?_
                    refine lv_bipush (v := -9) hx hb dX6_read_36 (by decide) ?_
                    refine lv_icmp_ne (tgt := 168) hx hb dX6_read_38 (by decide) (fun c38 => ?_) (fun c38 => absurd c38 (nI_n9 (by omega)))
                    refine lv_iload_n hx hb dX6_read_168 rfl (lv_at hl 0 rfl) ?_
                    exact uRetI hx hb hr hlocks hK hP hD hS ⟨_, _, rfl, (scr_u (by decide) (scr_u (by decide) (scr_u (by decide) (scr_u (by decide) (scr_u (by decide) (scr_r _)))))), (by rw [hE]; exact (n9_s _).symm), rfl⟩ (Nat.le_of_ble_eq_true rfl) (Nat.le_of_ble_eq_true rfl) dX6_read_169
                  · rw [bN_1] at c123
                    have hct := (ct_iff c110).mp c123
                    obtain ⟨k, hkd⟩ : ∃ z, z = num T L j2 - 1 := ⟨_, rfl⟩
                    have hk30 : k ≤ 30 := by omega
                    refine lv_iconst (v := nI 1) hx hb dX6_read_126 (by decide) ?_
                    refine lv_goto (tgt := 131) hx hb dX6_read_127 (by decide) ?_
                    refine uV (nL := 5) (wr := [(r 1, .inl (ca 0, 38, .inl (rwN s)))]) (ci := 4) (q0 := 0) (cq := (RX6, TX6, 34)) hx hb hml hown hts hK hA hP hD hS [.int (nI 1)] [] (c_X6_accept_1 l D ca m r ((upd (upd (upd (upd (upd g 12 (nI (nxT T L j2))) 13 (nI j2)) 14 (nI (tkK T L j2))) 15 ((vlV T L j2))) 16 ((-9)))) L hg7 T hL hT (nxT T L j2) rfl (nxT_le htj2.1).2 rfl) gX6_read_X6_accept rfl ⟨rfl, qX6_accept⟩ ⟨Nat.le_of_ble_eq_true rfl, Nat.le_of_ble_eq_true rfl⟩ rfl rfl [0, 2] [1] rfl rfl (by decide) (by decide) rfl hl.1 (Nat.le_of_ble_eq_true rfl) ⟨Nat.le_of_ble_eq_true rfl, Nat.le_of_ble_eq_true rfl⟩ dX6_read_131 (oneK (wsN := [(m, .inr (4, mF r (upd (upd (upd (upd (upd g 12 (nI (nxT T L (skN T L (nxT T L j2))))) 13 (nI (skN T L (nxT T L j2)))) 14 (nI (tkK T L (skN T L (nxT T L j2))))) 15 ((vlV T L (skN T L (nxT T L j2))))) 16 ((-9))))), (r 1, .inl (ca 0, 38, .inl (rwN s))), (r 6, .inl (ca 0, 80, .inl (rwN T)))]) [1, 0, 2] (by decide) rfl (st1 := [.int ((vlV T L j2))]) rfl 0 0 rfl rfl (fun H locs hP hD hS => ?_))
                    have gj3 := go_x (E2 := 3) (X2 := adI X p k) hrj2 htj2 (cc_n1 c110) (by rw [af_2y hct, ← hkd]; exact congrArg (Prod.mk 3) (adI_k X p 1 k)) (by decide)
                    obtain ⟨j3, hdj3⟩ : ∃ z, z = skN T L (nxT T L j2) := ⟨_, rfl⟩
                    rw [← hdj3] at gj3 hP hD
                    obtain ⟨hrj3, htj3, hltj3⟩ := gj3
                    have hlej3 := htj3.1
                    have hP : va_P D vwCl [(m, .inr (4, mF r (upd (upd (upd (upd (upd g 12 (nI (nxT T L j3))) 13 (nI j3)) 14 (nI (tkK T L j3))) 15 ((vlV T L j3))) 16 ((-9))))), (r 1, .inl (ca 0, 38, .inl (rwN s))), (r 6, .inl (ca 0, 80, .inl (rwN T)))] H := hP
                    have hD : va_D A [(m, .inr (4, mF r (upd (upd (upd (upd (upd g 12 (nI (nxT T L j3))) 13 (nI j3)) 14 (nI (tkK T L j3))) 15 ((vlV T L j3))) 16 ((-9))))), (r 1, .inl (ca 0, 38, .inl (rwN s))), (r 6, .inl (ca 0, 80, .inl (rwN T)))] := hD
                    rw [show ((vlV T L j2)) = (nI k) from (by rw [pr_v c110 (by omega), hkd])]
                    refine lv_istore (lv' := [(4, .int (nI k)), (3, .int (nI p)), (2, .int (nI 0)), (0, .ref m), (1, .int (nI 0))]) hx hb dX6_read_134 hl (by decide) rfl (fun ls hl => ?_)
                    refine lv_aload_n hx hb dX6_read_136 rfl (lv_at hl 3 rfl) ?_
                    refine lv_aload_n hx hb dX6_read_137 rfl (lv_at hl 3 rfl) ?_
                    refine lv_bipush (v := nI 59) hx hb dX6_read_138 (by decide) ?_
                    refine rdV (nL := 5) (ci := 4) (q0 := 0) (cq := (RX6, TX6, 34)) hx hb hml hown hts hK hP [.int (nI 59)] [.ref m] (c_X6_isSign l D ca m r ((upd (upd (upd (upd (upd g 12 (nI (nxT T L j3))) 13 (nI j3)) 14 (nI (tkK T L j3))) 15 ((vlV T L j3))) 16 ((-9)))) (tkK T L j3) (tk_lt _ _ _) rfl (((vlV T L j3))) rfl 59) gX6_read_X6_isSign rfl ⟨rfl, qX6_isSign⟩ ⟨Nat.le_of_ble_eq_true rfl, Nat.le_of_ble_eq_true rfl⟩ rfl rfl [0] rfl rfl hl.1 (Nat.le_of_ble_eq_true rfl) ⟨Nat.le_of_ble_eq_true rfl, Nat.le_of_ble_eq_true rfl⟩ dX6_read_140 ?_
                    by_cases h59 : tkK T L j3 = 2 ∧ vlV T L j3 = nI 59
                    · rw [show (nI (bN (decide (tkK T L j3 = 2 ∧ ((vlV T L j3)) = nI 59)))) = (nI 1) from (congrArg nI (bN_t h59))]
                      have h60 : cc T L j3 = 60 := (sg_iff hT (by decide) (by decide)).mp h59
                      refine uV (nL := 5) (wr := [(r 1, .inl (ca 0, 38, .inl (rwN s)))]) (ci := 4) (q0 := 0) (cq := (RX6, TX6, 34)) hx hb hml hown hts hK hA hP hD hS [.int (nI 1)] [] (c_X6_accept_1 l D ca m r ((upd (upd (upd (upd (upd g 12 (nI (nxT T L j3))) 13 (nI j3)) 14 (nI (tkK T L j3))) 15 ((vlV T L j3))) 16 ((-9)))) L hg7 T hL hT (nxT T L j3) rfl (nxT_le htj3.1).2 rfl) gX6_read_X6_accept rfl ⟨rfl, qX6_accept⟩ ⟨Nat.le_of_ble_eq_true rfl, Nat.le_of_ble_eq_true rfl⟩ rfl rfl [0, 2] [1] rfl rfl (by decide) (by decide) rfl hl.1 (Nat.le_of_ble_eq_true rfl) ⟨Nat.le_of_ble_eq_true rfl, Nat.le_of_ble_eq_true rfl⟩ dX6_read_143 (oneK (wsN := [(m, .inr (4, mF r (upd (upd (upd (upd (upd g 12 (nI (nxT T L (skN T L (nxT T L j3))))) 13 (nI (skN T L (nxT T L j3)))) 14 (nI (tkK T L (skN T L (nxT T L j3))))) 15 ((vlV T L (skN T L (nxT T L j3))))) 16 ((-9))))), (r 1, .inl (ca 0, 38, .inl (rwN s))), (r 6, .inl (ca 0, 80, .inl (rwN T)))]) [1, 0, 2] (by decide) rfl (st1 := [.int ((vlV T L j3))]) rfl 0 0 rfl rfl (fun H locs hP hD hS => ?_))
                      have gj4 := go_x (E2 := 0) (X2 := adI X p k) hrj3 htj3 (by omega) (af_3e h60) (by decide)
                      obtain ⟨j4, hdj4⟩ : ∃ z, z = skN T L (nxT T L j3) := ⟨_, rfl⟩
                      rw [← hdj4] at gj4 hP hD
                      obtain ⟨hrj4, htj4, hltj4⟩ := gj4
                      have hlej4 := htj4.1
                      have hP : va_P D vwCl [(m, .inr (4, mF r (upd (upd (upd (upd (upd g 12 (nI (nxT T L j4))) 13 (nI j4)) 14 (nI (tkK T L j4))) 15 ((vlV T L j4))) 16 ((-9))))), (r 1, .inl (ca 0, 38, .inl (rwN s))), (r 6, .inl (ca 0, 80, .inl (rwN T)))] H := hP
                      have hD : va_D A [(m, .inr (4, mF r (upd (upd (upd (upd (upd g 12 (nI (nxT T L j4))) 13 (nI j4)) 14 (nI (tkK T L j4))) 15 ((vlV T L j4))) 16 ((-9))))), (r 1, .inl (ca 0, 38, .inl (rwN s))), (r 6, .inl (ca 0, 80, .inl (rwN T)))] := hD
                      refine lv_pop hx hb dX6_read_146 rfl ?_
                      refine lv_iload_n hx hb dX6_read_147 rfl (lv_at hl 2 rfl) ?_
                      refine lv_iload_n hx hb dX6_read_148 rfl (lv_at hl 4 rfl) ?_
                      refine n_if_eq (tgt := 162) hx hb dX6_read_149 (by decide) (by decide) (fun _ => ?_) (fun q => absurd q (by decide))
                      refine lv_iconst (v := nI 0) hx hb dX6_read_162 (by decide) ?_
                      refine n_iadd hx hb dX6_read_163 ?_
                      refine lv_istore_n (lv' := [(2, .int (nI 0)), (4, .int (nI k)), (3, .int (nI p)), (0, .ref m), (1, .int (nI 0))]) hx hb dX6_read_164 rfl hl (by decide) rfl (fun ls hl => ?_)
                      refine lv_goto (tgt := 32) hx hb dX6_read_165 (by decide) ?_
                      exact ih32 j4 ((adI X p k)) htj4 hrj4 (Or.inl (Nat.succ_pos X.1)) htj4.1 (by omega) H locs hP hD hS ls (lv_sub hl [0, 3, 4] rfl)
                    · rw [show (nI (bN (decide (tkK T L j3 = 2 ∧ ((vlV T L j3)) = nI 59)))) = (nI 0) from (congrArg nI (bN_f h59))]
                      have h60 : cc T L j3 ≠ 60 := fun z => h59 ((sg_iff hT (by decide) (by decide)).mpr z)
                      have hE : (rdF T L (S 1) L 0 0 X0).1 = j3 + 1 := rE (congrArg Prod.fst hrj3) htj3 (by decide) (af_3n h60)
                      refine uV (nL := 5) (wr := [(r 1, .inl (ca 0, 38, .inl (rwN s))), (r 6, .inl (ca 0, 80, .inl (rwN T)))]) (ci := 4) (q0 := 0) (cq := (RX6, TX6, 34)) hx hb hml hown hts hK hA hP hD hS [.int (nI 0)] [] (c_X6_accept_0 l D ca m r ((upd (upd (upd (upd (upd g 12 (nI (nxT T L j3))) 13 (nI j3)) 14 (nI (tkK T L j3))) 15 ((vlV T L j3))) 16 ((-9)))) rfl) gX6_read_X6_accept rfl ⟨rfl, qX6_accept⟩ ⟨Nat.le_of_ble_eq_true rfl, Nat.le_of_ble_eq_true rfl⟩ rfl rfl [0] [1, 2] rfl rfl (by decide) (by decide) rfl hl.1 (Nat.le_of_ble_eq_true rfl) ⟨Nat.le_of_ble_eq_true rfl, Nat.le_of_ble_eq_true rfl⟩ dX6_read_143 (oneK (wsN := [(m, .inr (4, mF r (upd (upd (upd (upd (upd g 12 (nI (nxT T L j3))) 13 (nI j3)) 14 (nI (tkK T L j3))) 15 ((vlV T L j3))) 16 (nI j3)))), (r 1, .inl (ca 0, 38, .inl (rwN s))), (r 6, .inl (ca 0, 80, .inl (rwN T)))]) [2, 0, 1] (by decide) rfl (st1 := [.int ((vlV T L j3))]) rfl 0 0 rfl rfl (fun H locs hP hD hS => ?_))
                      refine lv_pop hx hb dX6_read_146 rfl ?_
                      refine lv_iload_n hx hb dX6_read_147 rfl (lv_at hl 2 rfl) ?_
                      refine lv_iload_n hx hb dX6_read_148 rfl (lv_at hl 4 rfl) ?_
                      refine n_if_eq (tgt := 162) hx hb dX6_read_149 (by decide) (by decide) (fun _ => ?_) (fun q => absurd q (by decide))
                      refine lv_iconst (v := nI 0) hx hb dX6_read_162 (by decide) ?_
                      refine n_iadd hx hb dX6_read_163 ?_
                      refine lv_istore_n (lv' := [(2, .int (nI 0)), (4, .int (nI k)), (3, .int (nI p)), (0, .ref m), (1, .int (nI 0))]) hx hb dX6_read_164 rfl hl (by decide) rfl (fun ls hl => ?_)
                      refine lv_goto (tgt := 32) hx hb dX6_read_165 (by decide) ?_
                      refine lv_aload_n hx hb dX6_read_32 rfl (lv_at hl 3 rfl) ?_
                      refine va_get (D := D) (ci := 4) (v := .int (nI j3)) (C := RX6) (T := TX6) (N := 34) hx hb hts hinX60 hown hK.1 hP 0 rfl rfl 16 (by decide) (hts (.fieldLink RX6 162 "RenamingGridModel" "error" "I") (List.mem_of_getElem? (i := 1) rfl)) (fun _ h9 => h9) rfl dX6_read_33 ?_
                      refine lv_bipush (v := -9) hx hb dX6_read_36 (by decide) ?_
                      refine lv_icmp_ne (tgt := 168) hx hb dX6_read_38 (by decide) (fun c38 => ?_) (fun c38 => absurd c38 (nI_n9 (by omega)))
                      refine lv_iload_n hx hb dX6_read_168 rfl (lv_at hl 0 rfl) ?_
                      exact uRetI hx hb hr hlocks hK hP hD hS ⟨_, _, rfl, (scr_u (by decide) (scr_u (by decide) (scr_u (by decide) (scr_u (by decide) (scr_u (by decide) (scr_r _)))))), (by rw [hE]; exact (n9_s _).symm), rfl⟩ (Nat.le_of_ble_eq_true rfl) (Nat.le_of_ble_eq_true rfl) dX6_read_169
    exact loop32 (L + 1) j X0 htj hrj (Or.inr (Nat.lt_of_le_of_ne htj.1 (fun z => c19 ((tk_0 htj.1).mpr z)))) htj.1 (by omega) _ _ hP hD hS ls (lv_sub hl [0, 1, 2] rfl)
  · have hjL : j = L := (tk_0 htj.1).mp c19
    have hE : (rdF T L (S 1) L 0 0 X0).1 = j + 1 := by rw [hrj, hjL, rd_end, if_neg (fun z => absurd z.2 (by rw [hX0]; exact Nat.lt_irrefl 0))]
    refine lv_aload_n hx hb dX6_read_22 rfl (lv_at hl 0 rfl) ?_
    refine lv_aload_n hx hb dX6_read_23 rfl (lv_at hl 0 rfl) ?_
    refine va_get (D := D) (ci := 4) (v := .int (nI j)) (C := RX6) (T := TX6) (N := 34) hx hb hts hinX60 hown hK.1 hP 0 rfl rfl 13 (by decide) (hts (.fieldLink RX6 153 "RenamingGridModel" "start" "I") (List.mem_of_getElem? (i := 4) rfl)) (fun _ h9 => h9) rfl dX6_read_24 ?_
    refine va_put (D := D) (ci := 4) (v := .int (nI j)) (ty := tyX6 16) (C := RX6) (T := TX6) (N := 34) hx hb hts hinX60 tyX6 tyX6_ok nmX6 hown hK.1 hP hD hS 0 rfl rfl 16 (by decide) (hts (.fieldLink RX6 162 "RenamingGridModel" "error" "I") (List.mem_of_getElem? (i := 1) rfl)) (fun _ h9 => h9) rfl (tyX6_ok 16 (by decide)) rfl rfl (Nat.le_of_ble_eq_true rfl) dX6_read_27 (fun H locs hP hD hS => ?_)
    have hP : va_P D vwCl [(m, .inr (4, mF r (upd (upd (upd (upd (upd g 12 (nI (nxT T L j))) 13 (nI j)) 14 (nI (tkK T L j))) 15 ((vlV T L j))) 16 (nI j)))), (r 1, .inl (ca 0, 38, .inl (rwN s))), (r 6, .inl (ca 0, 80, .inl (rwN T)))] H := hP
    have hD : va_D A [(m, .inr (4, mF r (upd (upd (upd (upd (upd g 12 (nI (nxT T L j))) 13 (nI j)) 14 (nI (tkK T L j))) 15 ((vlV T L j))) 16 (nI j)))), (r 1, .inl (ca 0, 38, .inl (rwN s))), (r 6, .inl (ca 0, 80, .inl (rwN T)))] := hD
    refine lv_iconst (v := nI 0) hx hb dX6_read_30 (by decide) ?_
    refine lv_istore_n (lv' := [(2, .int (nI 0)), (0, .ref m), (1, .int (nI 0))]) hx hb dX6_read_31 rfl hl (by decide) rfl (fun ls hl => ?_)
    refine lv_aload_n hx hb dX6_read_32 rfl (lv_at hl 1 rfl) ?_
    refine va_get (D := D) (ci := 4) (v := .int (nI j)) (C := RX6) (T := TX6) (N := 34) hx hb hts hinX60 hown hK.1 hP 0 rfl rfl 16 (by decide) (hts (.fieldLink RX6 162 "RenamingGridModel" "error" "I") (List.mem_of_getElem? (i := 1) rfl)) (fun _ h9 => h9) rfl dX6_read_33 ?_
    refine lv_bipush (v := -9) hx hb dX6_read_36 (by decide) ?_
    refine lv_icmp_ne (tgt := 168) hx hb dX6_read_38 (by decide) (fun c38 => ?_) (fun c38 => absurd c38 (nI_n9 (by omega)))
    refine lv_iload_n hx hb dX6_read_168 rfl (lv_at hl 0 rfl) ?_
    exact uRetI hx hb hr hlocks hK hP hD hS ⟨_, _, rfl, (scr_u (by decide) (scr_u (by decide) (scr_u (by decide) (scr_u (by decide) (scr_u (by decide) (scr_r _)))))), (by rw [hE]; exact (n9_s _).symm), rfl⟩ (Nat.le_of_ble_eq_true rfl) (Nat.le_of_ble_eq_true rfl) dX6_read_169

set_option maxHeartbeats 4000000 in
set_option maxRecDepth 100000 in
theorem c_X6_read_1 (l : Launch) (D : va_G) (ca : Nat → ClassId) (m : Nat) (r : Nat → Nat) (g : Nat → Int32) (L : Nat) (hg7 : g 7 = nI L) (T : Nat → Nat) (hL : L ≤ 80) (hT : ∀ i, T i ≤ 255) (s S : Nat → Nat) (hs : MR s S) (hok : SOK S) (X0 : PS) (hX0 : X0.1 = 0) (h00 : (rdF T L (S 1) L 0 0 X0).1 = 0) : UP l D ca yX6_read wsX6_read 5 116 0 0 [(m, .inr (4, mF r g)), (r 1, .inl (ca 0, 38, .inl (rwN s))), (r 6, .inl (ca 0, 80, .inl (rwN T)))] [.ref m, .int (nI 1)] (fun v W1 => v = some (.int (nI (exN (rdF T L (S 1) L 0 0 X0).2 (rdF T L (S 1) L 0 0 X0).2.1 0 S))) ∧ ∃ (g2 : Nat → Int32) (s2 : Nat → Nat), scr g g2 ∧ MR s2 (exS (rdF T L (S 1) L 0 0 X0).2 (rdF T L (S 1) L 0 0 X0).2.1 0 S) ∧ W1 = [(m, .inr (4, mF r g2)), (r 1, .inl (ca 0, 38, .inl (rwN s2))), (r 6, .inl (ca 0, 80, .inl (rwN T)))]) := by
  refine UP.start (cc := cX6_read) (maxL := 5) (ret := (some .int)) (by decide) rfl (Nat.le_of_ble_eq_true rfl) ?_
  intro p_ e_ s_ m_ below_ meth_ c_ A hx hb hml hr hlocks hin hown hts hK hA hP hD hS ls hl
  have hown : s_.vm.findClass RX6 = some m_.cls := hown
  have hl : lv_has ls 5 [(0, .ref m), (1, .int (nI 1))] := hl
  have hinX60 : ∀ w ∈ wsX60, w ∈ wsX6_read := fun w h => List.mem_cons_of_mem _ (List.mem_append_right _ h)
  refine lv_aload_n hx hb dX6_read_0 rfl (lv_at hl 0 rfl) ?_
  refine lv_bipush (v := -9) hx hb dX6_read_1 (by decide) ?_
  refine va_put (D := D) (ci := 4) (v := .int ((-9))) (ty := tyX6 16) (C := RX6) (T := TX6) (N := 34) hx hb hts hinX60 tyX6 tyX6_ok nmX6 hown hK.1 hP hD hS 0 rfl rfl 16 (by decide) (hts (.fieldLink RX6 162 "RenamingGridModel" "error" "I") (List.mem_of_getElem? (i := 1) rfl)) (fun _ h9 => h9) rfl (tyX6_ok 16 (by decide)) rfl rfl (Nat.le_of_ble_eq_true rfl) dX6_read_3 (fun H locs hP hD hS => ?_)
  have hP : va_P D vwCl [(m, .inr (4, mF r (upd g 16 ((-9))))), (r 1, .inl (ca 0, 38, .inl (rwN s))), (r 6, .inl (ca 0, 80, .inl (rwN T)))] H := hP
  have hD : va_D A [(m, .inr (4, mF r (upd g 16 ((-9))))), (r 1, .inl (ca 0, 38, .inl (rwN s))), (r 6, .inl (ca 0, 80, .inl (rwN T)))] := hD
  refine lv_aload_n hx hb dX6_read_6 rfl (lv_at hl 0 rfl) ?_
  refine lv_iconst (v := nI 0) hx hb dX6_read_7 (by decide) ?_
  refine va_put (D := D) (ci := 4) (v := .int (nI 0)) (ty := tyX6 12) (C := RX6) (T := TX6) (N := 34) hx hb hts hinX60 tyX6 tyX6_ok nmX6 hown hK.1 hP hD hS 0 rfl rfl 12 (by decide) (hts (.fieldLink RX6 147 "RenamingGridModel" "next" "I") (List.mem_of_getElem? (i := 2) rfl)) (fun _ h9 => h9) rfl (tyX6_ok 12 (by decide)) rfl rfl (Nat.le_of_ble_eq_true rfl) dX6_read_8 (fun H locs hP hD hS => ?_)
  have hP : va_P D vwCl [(m, .inr (4, mF r (upd (upd g 12 (nI 0)) 16 ((-9))))), (r 1, .inl (ca 0, 38, .inl (rwN s))), (r 6, .inl (ca 0, 80, .inl (rwN T)))] H := hP
  have hD : va_D A [(m, .inr (4, mF r (upd (upd g 12 (nI 0)) 16 ((-9))))), (r 1, .inl (ca 0, 38, .inl (rwN s))), (r 6, .inl (ca 0, 80, .inl (rwN T)))] := hD
  refine lv_aload_n hx hb dX6_read_11 rfl (lv_at hl 0 rfl) ?_
  refine uV (nL := 5) (wr := [(r 1, .inl (ca 0, 38, .inl (rwN s)))]) (ci := 4) (q0 := 0) (cq := (RX6, TX6, 34)) hx hb hml hown hts hK hA hP hD hS [] [] (c_X6_advance l D ca m r ((upd (upd g 12 (nI 0)) 16 ((-9)))) L hg7 T hL hT 0 rfl (Nat.zero_le _)) gX6_read_X6_advance rfl ⟨rfl, qX6_advance⟩ ⟨Nat.le_of_ble_eq_true rfl, Nat.le_of_ble_eq_true rfl⟩ rfl rfl [0, 2] [1] rfl rfl (by decide) (by decide) rfl hl.1 (Nat.le_of_ble_eq_true rfl) ⟨Nat.le_of_ble_eq_true rfl, Nat.le_of_ble_eq_true rfl⟩ dX6_read_12 (oneK (wsN := [(m, .inr (4, mF r (upd (upd (upd (upd (upd g 12 (nI (nxT T L (skN T L 0)))) 13 (nI (skN T L 0))) 14 (nI (tkK T L (skN T L 0)))) 15 ((vlV T L (skN T L 0)))) 16 ((-9))))), (r 1, .inl (ca 0, 38, .inl (rwN s))), (r 6, .inl (ca 0, 80, .inl (rwN T)))]) [1, 0, 2] (by decide) rfl (st1 := []) rfl 0 0 rfl rfl (fun H locs hP hD hS => ?_))
  obtain ⟨j, hdj⟩ : ∃ z, z = skN T L 0 := ⟨_, rfl⟩
  have htj : TB T L j := hdj ▸ TB_sk (Nat.zero_le L) (BD_0 T L)
  have hrj : rdF T L (S 1) L 0 0 X0 = rdF T L (S 1) (L - j) j 0 X0 := by rw [hdj]; exact rd_sk (Nat.zero_le L)
  rw [← hdj] at hP hD
  have hlej := htj.1
  have hP : va_P D vwCl [(m, .inr (4, mF r (upd (upd (upd (upd (upd g 12 (nI (nxT T L j))) 13 (nI j)) 14 (nI (tkK T L j))) 15 ((vlV T L j))) 16 ((-9))))), (r 1, .inl (ca 0, 38, .inl (rwN s))), (r 6, .inl (ca 0, 80, .inl (rwN T)))] H := hP
  have hD : va_D A [(m, .inr (4, mF r (upd (upd (upd (upd (upd g 12 (nI (nxT T L j))) 13 (nI j)) 14 (nI (tkK T L j))) 15 ((vlV T L j))) 16 ((-9))))), (r 1, .inl (ca 0, 38, .inl (rwN s))), (r 6, .inl (ca 0, 80, .inl (rwN T)))] := hD
  refine lv_aload_n hx hb dX6_read_15 rfl (lv_at hl 0 rfl) ?_
  refine va_get (D := D) (ci := 4) (v := .int (nI (tkK T L j))) (C := RX6) (T := TX6) (N := 34) hx hb hts hinX60 hown hK.1 hP 0 rfl rfl 14 (by decide) (hts (.fieldLink RX6 159 "RenamingGridModel" "token" "I") (List.mem_of_getElem? (i := 3) rfl)) (fun _ h9 => h9) rfl dX6_read_16 ?_
  refine n_if_ne (tgt := 30) hx hb dX6_read_19 (by decide) (by have := tk_lt T L j; omega) (fun c19 => ?_) (fun c19 => ?_)
  · refine lv_iconst (v := nI 0) hx hb dX6_read_30 (by decide) ?_
    refine lv_istore_n (lv' := [(2, .int (nI 0)), (0, .ref m), (1, .int (nI 1))]) hx hb dX6_read_31 rfl hl (by decide) rfl (fun ls hl => ?_)
    have loop32 : ∀ (N_ : Nat) (j : Nat) (X : PS) (s1 : Nat → Nat) (S1 : Nat → Nat) (a8 : Int32) (a9 : Int32) (x : Int32) (y : Int32) (htj : TB T L j) (hrj : rdF T L (S 1) L 0 0 X0 = rdF T L (S 1) (L - j) j 0 X) (hXp : 0 < X.1 ∨ j < L) (hjl : j ≤ L) (hf : L < j + N_) (hs1 : MR s1 S1) (hok1 : SOK S1) (h11 : S1 1 = S 1) (hS1 : S1 = exS X X.1 0 S), ∀ (H : Heap) (locs : List Loc), va_P D vwCl [(m, .inr (4, mF r (upd (upd (upd (upd (upd (upd (upd (upd (upd g 8 a8) 9 a9) 10 x) 11 y) 12 (nI (nxT T L j))) 13 (nI j)) 14 (nI (tkK T L j))) 15 ((vlV T L j))) 16 ((-9))))), (r 1, .inl (ca 0, 38, .inl (rwN s1))), (r 6, .inl (ca 0, 80, .inl (rwN T)))] H → va_D A [(m, .inr (4, mF r (upd (upd (upd (upd (upd (upd (upd (upd (upd g 8 a8) 9 a9) 10 x) 11 y) 12 (nI (nxT T L j))) 13 (nI j)) 14 (nI (tkK T L j))) 15 ((vlV T L j))) 16 ((-9))))), (r 1, .inl (ca 0, 38, .inl (rwN s1))), (r 6, .inl (ca 0, 80, .inl (rwN T)))] → va_S A s_.heap H locs → ∀ (ls : Array Slot), lv_has ls 5 [(2, .int (nI (exN X X.1 0 S))), (0, .ref m), (1, .int (nI 1))] → W p_ l e_ ({ frames := 5, cells := 0, slots := 0, locals := 116 }) s_ m_ ([.ref m, .int (nI 1)]).toArray below_ meth_ c_ H locs 0 0 (MQ below_ (uQA D ca A (fun v W1 => v = some (.int (nI (exN (rdF T L (S 1) L 0 0 X0).2 (rdF T L (S 1) L 0 0 X0).2.1 0 S))) ∧ ∃ (g2 : Nat → Int32) (s2 : Nat → Nat), scr g g2 ∧ MR s2 (exS (rdF T L (S 1) L 0 0 X0).2 (rdF T L (S 1) L 0 0 X0).2.1 0 S) ∧ W1 = [(m, .inr (4, mF r g2)), (r 1, .inl (ca 0, 38, .inl (rwN s2))), (r 6, .inl (ca 0, 80, .inl (rwN T)))])) ([.ref m, .int (nI 1)]).toArray s_ 0 0 A) (F0 m_ 32 ls []) := by
      intro N_
      induction N_ with
      | zero => intro j X s1 S1 a8 a9 x y htj hrj hXp hjl hf hs1 hok1 h11 hS1; exfalso; omega
      | succ N_ ih32 =>
        intro j X s1 S1 a8 a9 x y htj hrj hXp hjl hf hs1 hok1 h11 hS1 H locs hP hD hS ls hl
        refine lv_aload_n hx hb dX6_read_32 rfl (lv_at hl 1 rfl) ?_
        refine va_get (D := D) (ci := 4) (v := .int ((-9))) (C := RX6) (T := TX6) (N := 34) hx hb hts hinX60 hown hK.1 hP 0 rfl rfl 16 (by decide) (hts (.fieldLink RX6 162 "RenamingGridModel" "error" "I") (List.mem_of_getElem? (i := 1) rfl)) (fun _ h9 => h9) rfl dX6_read_33 ?_
        refine lv_bipush (v := -9) hx hb dX6_read_36 (by decide) ?_
        refine lv_icmp_ne (tgt := 168) hx hb dX6_read_38 (by decide) (fun c38 => absurd c38 (fun z => z rfl)) (fun c38 => ?_)
        refine lv_aload_n hx hb dX6_read_41 rfl (lv_at hl 1 rfl) ?_
        refine va_get (D := D) (ci := 4) (v := .int (nI (tkK T L j))) (C := RX6) (T := TX6) (N := 34) hx hb hts hinX60 hown hK.1 hP 0 rfl rfl 14 (by decide) (hts (.fieldLink RX6 159 "RenamingGridModel" "token" "I") (List.mem_of_getElem? (i := 3) rfl)) (fun _ h9 => h9) rfl dX6_read_42 ?_
        refine n_if_eq (tgt := 168) hx hb dX6_read_45 (by decide) (by have := tk_lt T L j; omega) (fun c45 => ?_) (fun c45 => ?_)
        · have hjL : j = L := (tk_0 htj.1).mp c45
          have hE : rdF T L (S 1) L 0 0 X0 = (0, X) := by rw [hrj, hjL, rd_end, if_pos ⟨rfl, by omega⟩]
          refine lv_iload_n hx hb dX6_read_168 rfl (lv_at hl 0 rfl) ?_
          exact uRetI hx hb hr hlocks hK hP hD hS ⟨by rw [hE], _, s1, (scr_u (by decide) (scr_u (by decide) (scr_u (by decide) (scr_u (by decide) (scr_u (by decide) (scr_u (by decide) (scr_u (by decide) (scr_u (by decide) (scr_u (by decide) (scr_r _)))))))))), by rw [hE]; show MR s1 (exS X X.1 0 S); rw [← hS1]; exact hs1, rfl⟩ (Nat.le_of_ble_eq_true rfl) (Nat.le_of_ble_eq_true rfl) dX6_read_169
        · have hjL : j < L := Nat.lt_of_le_of_ne htj.1 (fun z => c45 ((tk_0 htj.1).mpr z))
          refine lv_aload_n hx hb dX6_read_48 rfl (lv_at hl 1 rfl) ?_
          refine lv_aload_n hx hb dX6_read_49 rfl (lv_at hl 1 rfl) ?_
          refine va_get (D := D) (ci := 4) (v := .int (nI (tkK T L j))) (C := RX6) (T := TX6) (N := 34) hx hb hts hinX60 hown hK.1 hP 0 rfl rfl 14 (by decide) (hts (.fieldLink RX6 159 "RenamingGridModel" "token" "I") (List.mem_of_getElem? (i := 3) rfl)) (fun _ h9 => h9) rfl dX6_read_50 ?_
          refine lv_iconst (v := nI 1) hx hb dX6_read_53 (by decide) ?_
          refine n_ic_ne (tgt := 72) hx hb dX6_read_54 (by decide) (by have := tk_lt T L j; omega) (by decide) (fun c54 => ?_) (fun c54 => ?_)
          · have hE : (rdF T L (S 1) L 0 0 X0).1 = j + 1 := rE0 (congrArg Prod.fst hrj) htj hjL (af_n (by have := hok.2.1; omega) (fun z => c54 z.1))
            exact absurd h00 (by rw [hE]; exact Nat.succ_ne_zero _)
          · refine lv_aload_n hx hb dX6_read_57 rfl (lv_at hl 1 rfl) ?_
            refine lv_aload_n hx hb dX6_read_58 rfl (lv_at hl 1 rfl) ?_
            refine va_get (D := D) (ci := 4) (v := .int ((vlV T L j))) (C := RX6) (T := TX6) (N := 34) hx hb hts hinX60 hown hK.1 hP 0 rfl rfl 15 (by decide) (hts (.fieldLink RX6 156 "RenamingGridModel" "value" "I") (List.mem_of_getElem? (i := 5) rfl)) (fun _ h9 => h9) rfl dX6_read_59 ?_
            refine rdV (nL := 5) (ci := 4) (q0 := 0) (cq := (RX6, TX6, 34)) hx hb hml hown hts hK hP [.int ((vlV T L j))] [.ref m] (c_X6_isProcess l D ca m r ((upd (upd (upd (upd (upd (upd (upd (upd (upd g 8 a8) 9 a9) 10 x) 11 y) 12 (nI (nxT T L j))) 13 (nI j)) 14 (nI (tkK T L j))) 15 ((vlV T L j))) 16 ((-9)))) s1 S1 hs1 hok1 ((vlV T L j))) gX6_read_X6_isProcess rfl ⟨rfl, qX6_isProcess⟩ ⟨Nat.le_of_ble_eq_true rfl, Nat.le_of_ble_eq_true rfl⟩ rfl rfl [0, 1] rfl rfl hl.1 (Nat.le_of_ble_eq_true rfl) ⟨Nat.le_of_ble_eq_true rfl, Nat.le_of_ble_eq_true rfl⟩ dX6_read_62 ?_
            refine n_if_eq (tgt := 72) hx hb dX6_read_65 (by decide) (bN_b _) (fun c65 => ?_) (fun c65 => ?_)
            · rw [bN_0] at c65
              rw [h11] at c65
              have hE : (rdF T L (S 1) L 0 0 X0).1 = j + 1 := rE0 (congrArg Prod.fst hrj) htj hjL (af_n (by have := hok.2.1; omega) (fun z => c65 z.2))
              exact absurd h00 (by rw [hE]; exact Nat.succ_ne_zero _)
            · rw [bN_1] at c65
              rw [h11] at c65
              have hnum := (pr_iff (by have := hok.2.1; omega) c54).mp c65
              obtain ⟨p, hpd⟩ : ∃ z, z = num T L j - 1 := ⟨_, rfl⟩
              have hpS : p < S 1 := by omega
              refine lv_iconst (v := nI 1) hx hb dX6_read_68 (by decide) ?_
              refine lv_goto (tgt := 73) hx hb dX6_read_69 (by decide) ?_
              refine uV (nL := 5) (wr := [(r 1, .inl (ca 0, 38, .inl (rwN s1)))]) (ci := 4) (q0 := 0) (cq := (RX6, TX6, 34)) hx hb hml hown hts hK hA hP hD hS [.int (nI 1)] [] (c_X6_accept_1 l D ca m r ((upd (upd (upd (upd (upd (upd (upd (upd (upd g 8 a8) 9 a9) 10 x) 11 y) 12 (nI (nxT T L j))) 13 (nI j)) 14 (nI (tkK T L j))) 15 ((vlV T L j))) 16 ((-9)))) L hg7 T hL hT (nxT T L j) rfl (nxT_le htj.1).2 rfl) gX6_read_X6_accept rfl ⟨rfl, qX6_accept⟩ ⟨Nat.le_of_ble_eq_true rfl, Nat.le_of_ble_eq_true rfl⟩ rfl rfl [0, 2] [1] rfl rfl (by decide) (by decide) rfl hl.1 (Nat.le_of_ble_eq_true rfl) ⟨Nat.le_of_ble_eq_true rfl, Nat.le_of_ble_eq_true rfl⟩ dX6_read_73 (oneK (wsN := [(m, .inr (4, mF r (upd (upd (upd (upd (upd (upd (upd (upd (upd g 8 a8) 9 a9) 10 x) 11 y) 12 (nI (nxT T L (skN T L (nxT T L j))))) 13 (nI (skN T L (nxT T L j)))) 14 (nI (tkK T L (skN T L (nxT T L j))))) 15 ((vlV T L (skN T L (nxT T L j))))) 16 ((-9))))), (r 1, .inl (ca 0, 38, .inl (rwN s1))), (r 6, .inl (ca 0, 80, .inl (rwN T)))]) [1, 0, 2] (by decide) rfl (st1 := [.int ((vlV T L j))]) rfl 0 0 rfl rfl (fun H locs hP hD hS => ?_))
              have gj1 := go_x (E2 := 1) (X2 := adI X p 1) hrj htj (cc_n1 c54) (by rw [hpd]; exact af_0y hnum) (by decide)
              obtain ⟨j1, hdj1⟩ : ∃ z, z = skN T L (nxT T L j) := ⟨_, rfl⟩
              rw [← hdj1] at gj1 hP hD
              obtain ⟨hrj1, htj1, hltj1⟩ := gj1
              have hlej1 := htj1.1
              have hP : va_P D vwCl [(m, .inr (4, mF r (upd (upd (upd (upd (upd (upd (upd (upd (upd g 8 a8) 9 a9) 10 x) 11 y) 12 (nI (nxT T L j1))) 13 (nI j1)) 14 (nI (tkK T L j1))) 15 ((vlV T L j1))) 16 ((-9))))), (r 1, .inl (ca 0, 38, .inl (rwN s1))), (r 6, .inl (ca 0, 80, .inl (rwN T)))] H := hP
              have hD : va_D A [(m, .inr (4, mF r (upd (upd (upd (upd (upd (upd (upd (upd (upd g 8 a8) 9 a9) 10 x) 11 y) 12 (nI (nxT T L j1))) 13 (nI j1)) 14 (nI (tkK T L j1))) 15 ((vlV T L j1))) 16 ((-9))))), (r 1, .inl (ca 0, 38, .inl (rwN s1))), (r 6, .inl (ca 0, 80, .inl (rwN T)))] := hD
              rw [show ((vlV T L j)) = (nI p) from (by rw [pr_v c54 hnum.1, hpd])]
              refine lv_istore_n (lv' := [(3, .int (nI p)), (2, .int (nI (exN X X.1 0 S))), (0, .ref m), (1, .int (nI 1))]) hx hb dX6_read_76 rfl hl (by decide) rfl (fun ls hl => ?_)
              refine lv_iconst (v := nI 1) hx hb dX6_read_77 (by decide) ?_
              refine lv_istore (lv' := [(4, .int (nI 1)), (3, .int (nI p)), (2, .int (nI (exN X X.1 0 S))), (0, .ref m), (1, .int (nI 1))]) hx hb dX6_read_78 hl (by decide) rfl (fun ls hl => ?_)
              refine lv_aload_n hx hb dX6_read_80 rfl (lv_at hl 3 rfl) ?_
              refine va_get (D := D) (ci := 4) (v := .int ((-9))) (C := RX6) (T := TX6) (N := 34) hx hb hts hinX60 hown hK.1 hP 0 rfl rfl 16 (by decide) (hts (.fieldLink RX6 162 "RenamingGridModel" "error" "I") (List.mem_of_getElem? (i := 1) rfl)) (fun _ h9 => h9) rfl dX6_read_81 ?_
              refine lv_bipush (v := -9) hx hb dX6_read_84 (by decide) ?_
              refine lv_icmp_ne (tgt := 136) hx hb dX6_read_86 (by decide) (fun c86 => absurd c86 (fun z => z rfl)) (fun c86 => ?_)
              refine lv_aload_n hx hb dX6_read_89 rfl (lv_at hl 3 rfl) ?_
              refine lv_bipush (v := nI 42) hx hb dX6_read_90 (by decide) ?_
              refine rdV (nL := 5) (ci := 4) (q0 := 0) (cq := (RX6, TX6, 34)) hx hb hml hown hts hK hP [.int (nI 42)] [] (c_X6_isSign l D ca m r ((upd (upd (upd (upd (upd (upd (upd (upd (upd g 8 a8) 9 a9) 10 x) 11 y) 12 (nI (nxT T L j1))) 13 (nI j1)) 14 (nI (tkK T L j1))) 15 ((vlV T L j1))) 16 ((-9)))) (tkK T L j1) (tk_lt _ _ _) rfl (((vlV T L j1))) rfl 42) gX6_read_X6_isSign rfl ⟨rfl, qX6_isSign⟩ ⟨Nat.le_of_ble_eq_true rfl, Nat.le_of_ble_eq_true rfl⟩ rfl rfl [0] rfl rfl hl.1 (Nat.le_of_ble_eq_true rfl) ⟨Nat.le_of_ble_eq_true rfl, Nat.le_of_ble_eq_true rfl⟩ dX6_read_92 ?_
              refine n_if_eq (tgt := 136) hx hb dX6_read_95 (by decide) (bN_b _) (fun c95 => ?_) (fun c95 => ?_)
              · rw [bN_0] at c95
                have h43 : cc T L j1 ≠ 43 := fun z => c95 ((sg_iff hT (by decide) (by decide)).mpr z)
                refine lv_aload_n hx hb dX6_read_136 rfl (lv_at hl 3 rfl) ?_
                refine lv_aload_n hx hb dX6_read_137 rfl (lv_at hl 3 rfl) ?_
                refine lv_bipush (v := nI 59) hx hb dX6_read_138 (by decide) ?_
                refine rdV (nL := 5) (ci := 4) (q0 := 0) (cq := (RX6, TX6, 34)) hx hb hml hown hts hK hP [.int (nI 59)] [.ref m] (c_X6_isSign l D ca m r ((upd (upd (upd (upd (upd (upd (upd (upd (upd g 8 a8) 9 a9) 10 x) 11 y) 12 (nI (nxT T L j1))) 13 (nI j1)) 14 (nI (tkK T L j1))) 15 ((vlV T L j1))) 16 ((-9)))) (tkK T L j1) (tk_lt _ _ _) rfl (((vlV T L j1))) rfl 59) gX6_read_X6_isSign rfl ⟨rfl, qX6_isSign⟩ ⟨Nat.le_of_ble_eq_true rfl, Nat.le_of_ble_eq_true rfl⟩ rfl rfl [0] rfl rfl hl.1 (Nat.le_of_ble_eq_true rfl) ⟨Nat.le_of_ble_eq_true rfl, Nat.le_of_ble_eq_true rfl⟩ dX6_read_140 ?_
                by_cases h59 : tkK T L j1 = 2 ∧ vlV T L j1 = nI 59
                · rw [show (nI (bN (decide (tkK T L j1 = 2 ∧ ((vlV T L j1)) = nI 59)))) = (nI 1) from (congrArg nI (bN_t h59))]
                  have h60 : cc T L j1 = 60 := (sg_iff hT (by decide) (by decide)).mp h59
                  refine uV (nL := 5) (wr := [(r 1, .inl (ca 0, 38, .inl (rwN s1)))]) (ci := 4) (q0 := 0) (cq := (RX6, TX6, 34)) hx hb hml hown hts hK hA hP hD hS [.int (nI 1)] [] (c_X6_accept_1 l D ca m r ((upd (upd (upd (upd (upd (upd (upd (upd (upd g 8 a8) 9 a9) 10 x) 11 y) 12 (nI (nxT T L j1))) 13 (nI j1)) 14 (nI (tkK T L j1))) 15 ((vlV T L j1))) 16 ((-9)))) L hg7 T hL hT (nxT T L j1) rfl (nxT_le htj1.1).2 rfl) gX6_read_X6_accept rfl ⟨rfl, qX6_accept⟩ ⟨Nat.le_of_ble_eq_true rfl, Nat.le_of_ble_eq_true rfl⟩ rfl rfl [0, 2] [1] rfl rfl (by decide) (by decide) rfl hl.1 (Nat.le_of_ble_eq_true rfl) ⟨Nat.le_of_ble_eq_true rfl, Nat.le_of_ble_eq_true rfl⟩ dX6_read_143 (oneK (wsN := [(m, .inr (4, mF r (upd (upd (upd (upd (upd (upd (upd (upd (upd g 8 a8) 9 a9) 10 x) 11 y) 12 (nI (nxT T L (skN T L (nxT T L j1))))) 13 (nI (skN T L (nxT T L j1)))) 14 (nI (tkK T L (skN T L (nxT T L j1))))) 15 ((vlV T L (skN T L (nxT T L j1))))) 16 ((-9))))), (r 1, .inl (ca 0, 38, .inl (rwN s1))), (r 6, .inl (ca 0, 80, .inl (rwN T)))]) [1, 0, 2] (by decide) rfl (st1 := [.int ((vlV T L j1))]) rfl 0 0 rfl rfl (fun H locs hP hD hS => ?_))
                  have gj4 := go_x (E2 := 0) (X2 := adI X p 1) hrj1 htj1 (by omega) (af_1e h60) (by decide)
                  obtain ⟨j4, hdj4⟩ : ∃ z, z = skN T L (nxT T L j1) := ⟨_, rfl⟩
                  rw [← hdj4] at gj4 hP hD
                  obtain ⟨hrj4, htj4, hltj4⟩ := gj4
                  have hlej4 := htj4.1
                  have hP : va_P D vwCl [(m, .inr (4, mF r (upd (upd (upd (upd (upd (upd (upd (upd (upd g 8 a8) 9 a9) 10 x) 11 y) 12 (nI (nxT T L j4))) 13 (nI j4)) 14 (nI (tkK T L j4))) 15 ((vlV T L j4))) 16 ((-9))))), (r 1, .inl (ca 0, 38, .inl (rwN s1))), (r 6, .inl (ca 0, 80, .inl (rwN T)))] H := hP
                  have hD : va_D A [(m, .inr (4, mF r (upd (upd (upd (upd (upd (upd (upd (upd (upd g 8 a8) 9 a9) 10 x) 11 y) 12 (nI (nxT T L j4))) 13 (nI j4)) 14 (nI (tkK T L j4))) 15 ((vlV T L j4))) 16 ((-9))))), (r 1, .inl (ca 0, 38, .inl (rwN s1))), (r 6, .inl (ca 0, 80, .inl (rwN T)))] := hD
                  refine lv_pop hx hb dX6_read_146 rfl ?_
                  refine lv_iload_n hx hb dX6_read_147 rfl (lv_at hl 2 rfl) ?_
                  refine lv_iload_n hx hb dX6_read_148 rfl (lv_at hl 4 rfl) ?_
                  refine n_if_eq (tgt := 162) hx hb dX6_read_149 (by decide) (by decide) (fun q => absurd q (by decide)) (fun _ => ?_)
                  refine lv_aload_n hx hb dX6_read_152 rfl (lv_at hl 3 rfl) ?_
                  refine lv_iload_n hx hb dX6_read_153 rfl (lv_at hl 1 rfl) ?_
                  refine lv_iload hx hb dX6_read_154 (lv_at hl 0 rfl) ?_
                  refine uV (nL := 5) (wr := [(r 6, .inl (ca 0, 80, .inl (rwN T)))]) (ci := 4) (q0 := 0) (cq := (RX6, TX6, 34)) hx hb hml hown hts hK hA hP hD hS [.int (nI p), .int (nI 1)] [.int (nI (exN X X.1 0 S))] (c_X6_execute l D ca m r ((upd (upd (upd (upd (upd (upd (upd (upd (upd g 8 a8) 9 a9) 10 x) 11 y) 12 (nI (nxT T L j4))) 13 (nI j4)) 14 (nI (tkK T L j4))) 15 ((vlV T L j4))) 16 ((-9)))) s1 S1 hs1 hok1 p 1 (by rw [h11]; exact hpS) (by omega)) gX6_read_X6_execute rfl ⟨rfl, qX6_execute⟩ ⟨Nat.le_of_ble_eq_true rfl, Nat.le_of_ble_eq_true rfl⟩ rfl rfl [0, 1] [2] rfl rfl (by decide) (by decide) rfl hl.1 (Nat.le_of_ble_eq_true rfl) ⟨Nat.le_of_ble_eq_true rfl, Nat.le_of_ble_eq_true rfl⟩ dX6_read_156 (fun v1 W1 H locs hO hP hD hS => ?_)
                  obtain ⟨rfl, s2, x2, y2, hs2, rfl⟩ := hO
                  have hP : va_P D vwCl [(m, .inr (4, mF r (upd (upd (upd (upd (upd (upd (upd (upd (upd g 8 (nI (regs ((runS 1 S1 p) 3)))) 9 (nI (qn ((runS 1 S1 p) 3)))) 10 x2) 11 y2) 12 (nI (nxT T L j4))) 13 (nI j4)) 14 (nI (tkK T L j4))) 15 ((vlV T L j4))) 16 ((-9))))), (r 1, .inl (ca 0, 38, .inl (rwN s2))), (r 6, .inl (ca 0, 80, .inl (rwN T)))] H := hP.sub [1, 2, 0] rfl
                  have hD : va_D A [(m, .inr (4, mF r (upd (upd (upd (upd (upd (upd (upd (upd (upd g 8 (nI (regs ((runS 1 S1 p) 3)))) 9 (nI (qn ((runS 1 S1 p) 3)))) 10 x2) 11 y2) 12 (nI (nxT T L j4))) 13 (nI j4)) 14 (nI (tkK T L j4))) 15 ((vlV T L j4))) 16 ((-9))))), (r 1, .inl (ca 0, 38, .inl (rwN s2))), (r 6, .inl (ca 0, 80, .inl (rwN T)))] := hD.sub [1, 2, 0] (by decide) rfl
                  refine W.eq (g2 := F0 m_ 159 ls [.int (nI (runN 1 S1 p)), .int (nI (exN X X.1 0 S))]) rfl ?_
                  refine lv_goto (tgt := 163) hx hb dX6_read_159 (by decide) ?_
                  refine n_iadd hx hb dX6_read_163 ?_
                  rw [show (nI ((exN X X.1 0 S) + (runN 1 S1 p))) = (nI (exN (adI X p 1) (adI X p 1).1 0 S)) from (by rw [show exN (adI X p 1) (adI X p 1).1 0 S = exN X X.1 0 S + runN 1 (exS X X.1 0 S) p from adI_N X p 1 S, ← hS1])]
                  refine lv_istore_n (lv' := [(2, .int (nI (exN (adI X p 1) (adI X p 1).1 0 S))), (4, .int (nI 1)), (3, .int (nI p)), (0, .ref m), (1, .int (nI 1))]) hx hb dX6_read_164 rfl hl (by decide) rfl (fun ls hl => ?_)
                  refine lv_goto (tgt := 32) hx hb dX6_read_165 (by decide) ?_
                  exact ih32 j4 ((adI X p 1)) s2 ((runS 1 S1 p)) ((nI (regs ((runS 1 S1 p) 3)))) ((nI (qn ((runS 1 S1 p) 3)))) x2 y2 htj4 hrj4 (Or.inl (Nat.succ_pos X.1)) htj4.1 (by omega) hs2 (SOK_run 1 S1 p hok1 (by have := hok.2.1; omega)) ((runS_1 1 S1 p).trans h11) (by rw [hS1]; exact (adI_S X p 1 S).symm) H locs hP hD hS ls (lv_sub hl [0, 3, 4] rfl)
                · rw [show (nI (bN (decide (tkK T L j1 = 2 ∧ ((vlV T L j1)) = nI 59)))) = (nI 0) from (congrArg nI (bN_f h59))]
                  have h60 : cc T L j1 ≠ 60 := fun z => h59 ((sg_iff hT (by decide) (by decide)).mpr z)
                  have hE : (rdF T L (S 1) L 0 0 X0).1 = j1 + 1 := rE (congrArg Prod.fst hrj1) htj1 (by decide) (af_1n h43 h60)
                  exact absurd h00 (by rw [hE]; exact Nat.succ_ne_zero _)
              · rw [bN_1] at c95
                have h43 : cc T L j1 = 43 := (sg_iff hT (by decide) (by decide)).mp c95
                refine lv_aload_n hx hb dX6_read_98 rfl (lv_at hl 3 rfl) ?_
                refine lv_iconst (v := nI 1) hx hb dX6_read_99 (by decide) ?_
                refine uV (nL := 5) (wr := [(r 1, .inl (ca 0, 38, .inl (rwN s1)))]) (ci := 4) (q0 := 0) (cq := (RX6, TX6, 34)) hx hb hml hown hts hK hA hP hD hS [.int (nI 1)] [] (c_X6_accept_1 l D ca m r ((upd (upd (upd (upd (upd (upd (upd (upd (upd g 8 a8) 9 a9) 10 x) 11 y) 12 (nI (nxT T L j1))) 13 (nI j1)) 14 (nI (tkK T L j1))) 15 ((vlV T L j1))) 16 ((-9)))) L hg7 T hL hT (nxT T L j1) rfl (nxT_le htj1.1).2 rfl) gX6_read_X6_accept rfl ⟨rfl, qX6_accept⟩ ⟨Nat.le_of_ble_eq_true rfl, Nat.le_of_ble_eq_true rfl⟩ rfl rfl [0, 2] [1] rfl rfl (by decide) (by decide) rfl hl.1 (Nat.le_of_ble_eq_true rfl) ⟨Nat.le_of_ble_eq_true rfl, Nat.le_of_ble_eq_true rfl⟩ dX6_read_100 (oneK (wsN := [(m, .inr (4, mF r (upd (upd (upd (upd (upd (upd (upd (upd (upd g 8 a8) 9 a9) 10 x) 11 y) 12 (nI (nxT T L (skN T L (nxT T L j1))))) 13 (nI (skN T L (nxT T L j1)))) 14 (nI (tkK T L (skN T L (nxT T L j1))))) 15 ((vlV T L (skN T L (nxT T L j1))))) 16 ((-9))))), (r 1, .inl (ca 0, 38, .inl (rwN s1))), (r 6, .inl (ca 0, 80, .inl (rwN T)))]) [1, 0, 2] (by decide) rfl (st1 := [.int ((vlV T L j1))]) rfl 0 0 rfl rfl (fun H locs hP hD hS => ?_))
                have gj2 := go_x (E2 := 2) (X2 := adI X p 1) hrj1 htj1 (by omega) (af_1s h43) (by decide)
                obtain ⟨j2, hdj2⟩ : ∃ z, z = skN T L (nxT T L j1) := ⟨_, rfl⟩
                rw [← hdj2] at gj2 hP hD
                obtain ⟨hrj2, htj2, hltj2⟩ := gj2
                have hlej2 := htj2.1
                have hP : va_P D vwCl [(m, .inr (4, mF r (upd (upd (upd (upd (upd (upd (upd (upd (upd g 8 a8) 9 a9) 10 x) 11 y) 12 (nI (nxT T L j2))) 13 (nI j2)) 14 (nI (tkK T L j2))) 15 ((vlV T L j2))) 16 ((-9))))), (r 1, .inl (ca 0, 38, .inl (rwN s1))), (r 6, .inl (ca 0, 80, .inl (rwN T)))] H := hP
                have hD : va_D A [(m, .inr (4, mF r (upd (upd (upd (upd (upd (upd (upd (upd (upd g 8 a8) 9 a9) 10 x) 11 y) 12 (nI (nxT T L j2))) 13 (nI j2)) 14 (nI (tkK T L j2))) 15 ((vlV T L j2))) 16 ((-9))))), (r 1, .inl (ca 0, 38, .inl (rwN s1))), (r 6, .inl (ca 0, 80, .inl (rwN T)))] := hD
                refine lv_pop hx hb dX6_read_103 rfl ?_
                refine lv_aload_n hx hb dX6_read_104 rfl (lv_at hl 3 rfl) ?_
                refine lv_aload_n hx hb dX6_read_105 rfl (lv_at hl 3 rfl) ?_
                refine va_get (D := D) (ci := 4) (v := .int (nI (tkK T L j2))) (C := RX6) (T := TX6) (N := 34) hx hb hts hinX60 hown hK.1 hP 0 rfl rfl 14 (by decide) (hts (.fieldLink RX6 159 "RenamingGridModel" "token" "I") (List.mem_of_getElem? (i := 3) rfl)) (fun _ h9 => h9) rfl dX6_read_106 ?_
                refine lv_iconst (v := nI 1) hx hb dX6_read_109 (by decide) ?_
                refine n_ic_ne (tgt := 130) hx hb dX6_read_110 (by decide) (by have := tk_lt T L j2; omega) (by decide) (fun c110 => ?_) (fun c110 => ?_)
                · have hE : (rdF T L (S 1) L 0 0 X0).1 = j2 + 1 := rE (congrArg Prod.fst hrj2) htj2 (by decide) (af_c (fun z => c110 z.1))
                  exact absurd h00 (by rw [hE]; exact Nat.succ_ne_zero _)
                · refine lv_aload_n hx hb dX6_read_113 rfl (lv_at hl 3 rfl) ?_
                  refine va_get (D := D) (ci := 4) (v := .int ((vlV T L j2))) (C := RX6) (T := TX6) (N := 34) hx hb hts hinX60 hown hK.1 hP 0 rfl rfl 15 (by decide) (hts (.fieldLink RX6 156 "RenamingGridModel" "value" "I") (List.mem_of_getElem? (i := 5) rfl)) (fun _ h9 => h9) rfl dX6_read_114 ?_
                  refine lv_iconst (v := nI 1) hx hb dX6_read_117 (by decide) ?_
                  refine lv_bipush (v := nI 30) hx hb dX6_read_118 (by decide) ?_
                  refine rdS (nL := 5) hx hb hml hown hts hK hP [.int ((vlV T L j2)), .int (nI 1), .int (nI 30)] [.ref m] (c_X6_in l D ca ((vlV T L j2)) (nI 1) (nI 30)) gX6_read_X6_in rfl qX6_in ⟨Nat.le_of_ble_eq_true rfl, Nat.le_of_ble_eq_true rfl⟩ [] rfl rfl hl.1 (Nat.le_of_ble_eq_true rfl) ⟨Nat.le_of_ble_eq_true rfl, Nat.le_of_ble_eq_true rfl⟩ dX6_read_120 ?_
                  refine n_if_eq (tgt := 130) hx hb dX6_read_123 (by decide) (bN_b _) (fun c123 => ?_) (fun c123 => ?_)
                  · rw [bN_0] at c123
                    have hE : (rdF T L (S 1) L 0 0 X0).1 = j2 + 1 := rE (congrArg Prod.fst hrj2) htj2 (by decide) (af_c (fun z => c123 z.2))
                    exact absurd h00 (by rw [hE]; exact Nat.succ_ne_zero _)
                  · rw [bN_1] at c123
                    have hct := (ct_iff c110).mp c123
                    obtain ⟨k, hkd⟩ : ∃ z, z = num T L j2 - 1 := ⟨_, rfl⟩
                    have hk30 : k ≤ 30 := by omega
                    refine lv_iconst (v := nI 1) hx hb dX6_read_126 (by decide) ?_
                    refine lv_goto (tgt := 131) hx hb dX6_read_127 (by decide) ?_
                    refine uV (nL := 5) (wr := [(r 1, .inl (ca 0, 38, .inl (rwN s1)))]) (ci := 4) (q0 := 0) (cq := (RX6, TX6, 34)) hx hb hml hown hts hK hA hP hD hS [.int (nI 1)] [] (c_X6_accept_1 l D ca m r ((upd (upd (upd (upd (upd (upd (upd (upd (upd g 8 a8) 9 a9) 10 x) 11 y) 12 (nI (nxT T L j2))) 13 (nI j2)) 14 (nI (tkK T L j2))) 15 ((vlV T L j2))) 16 ((-9)))) L hg7 T hL hT (nxT T L j2) rfl (nxT_le htj2.1).2 rfl) gX6_read_X6_accept rfl ⟨rfl, qX6_accept⟩ ⟨Nat.le_of_ble_eq_true rfl, Nat.le_of_ble_eq_true rfl⟩ rfl rfl [0, 2] [1] rfl rfl (by decide) (by decide) rfl hl.1 (Nat.le_of_ble_eq_true rfl) ⟨Nat.le_of_ble_eq_true rfl, Nat.le_of_ble_eq_true rfl⟩ dX6_read_131 (oneK (wsN := [(m, .inr (4, mF r (upd (upd (upd (upd (upd (upd (upd (upd (upd g 8 a8) 9 a9) 10 x) 11 y) 12 (nI (nxT T L (skN T L (nxT T L j2))))) 13 (nI (skN T L (nxT T L j2)))) 14 (nI (tkK T L (skN T L (nxT T L j2))))) 15 ((vlV T L (skN T L (nxT T L j2))))) 16 ((-9))))), (r 1, .inl (ca 0, 38, .inl (rwN s1))), (r 6, .inl (ca 0, 80, .inl (rwN T)))]) [1, 0, 2] (by decide) rfl (st1 := [.int ((vlV T L j2))]) rfl 0 0 rfl rfl (fun H locs hP hD hS => ?_))
                    have gj3 := go_x (E2 := 3) (X2 := adI X p k) hrj2 htj2 (cc_n1 c110) (by rw [af_2y hct, ← hkd]; exact congrArg (Prod.mk 3) (adI_k X p 1 k)) (by decide)
                    obtain ⟨j3, hdj3⟩ : ∃ z, z = skN T L (nxT T L j2) := ⟨_, rfl⟩
                    rw [← hdj3] at gj3 hP hD
                    obtain ⟨hrj3, htj3, hltj3⟩ := gj3
                    have hlej3 := htj3.1
                    have hP : va_P D vwCl [(m, .inr (4, mF r (upd (upd (upd (upd (upd (upd (upd (upd (upd g 8 a8) 9 a9) 10 x) 11 y) 12 (nI (nxT T L j3))) 13 (nI j3)) 14 (nI (tkK T L j3))) 15 ((vlV T L j3))) 16 ((-9))))), (r 1, .inl (ca 0, 38, .inl (rwN s1))), (r 6, .inl (ca 0, 80, .inl (rwN T)))] H := hP
                    have hD : va_D A [(m, .inr (4, mF r (upd (upd (upd (upd (upd (upd (upd (upd (upd g 8 a8) 9 a9) 10 x) 11 y) 12 (nI (nxT T L j3))) 13 (nI j3)) 14 (nI (tkK T L j3))) 15 ((vlV T L j3))) 16 ((-9))))), (r 1, .inl (ca 0, 38, .inl (rwN s1))), (r 6, .inl (ca 0, 80, .inl (rwN T)))] := hD
                    rw [show ((vlV T L j2)) = (nI k) from (by rw [pr_v c110 (by omega), hkd])]
                    refine lv_istore (lv' := [(4, .int (nI k)), (3, .int (nI p)), (2, .int (nI (exN X X.1 0 S))), (0, .ref m), (1, .int (nI 1))]) hx hb dX6_read_134 hl (by decide) rfl (fun ls hl => ?_)
                    refine lv_aload_n hx hb dX6_read_136 rfl (lv_at hl 3 rfl) ?_
                    refine lv_aload_n hx hb dX6_read_137 rfl (lv_at hl 3 rfl) ?_
                    refine lv_bipush (v := nI 59) hx hb dX6_read_138 (by decide) ?_
                    refine rdV (nL := 5) (ci := 4) (q0 := 0) (cq := (RX6, TX6, 34)) hx hb hml hown hts hK hP [.int (nI 59)] [.ref m] (c_X6_isSign l D ca m r ((upd (upd (upd (upd (upd (upd (upd (upd (upd g 8 a8) 9 a9) 10 x) 11 y) 12 (nI (nxT T L j3))) 13 (nI j3)) 14 (nI (tkK T L j3))) 15 ((vlV T L j3))) 16 ((-9)))) (tkK T L j3) (tk_lt _ _ _) rfl (((vlV T L j3))) rfl 59) gX6_read_X6_isSign rfl ⟨rfl, qX6_isSign⟩ ⟨Nat.le_of_ble_eq_true rfl, Nat.le_of_ble_eq_true rfl⟩ rfl rfl [0] rfl rfl hl.1 (Nat.le_of_ble_eq_true rfl) ⟨Nat.le_of_ble_eq_true rfl, Nat.le_of_ble_eq_true rfl⟩ dX6_read_140 ?_
                    by_cases h59 : tkK T L j3 = 2 ∧ vlV T L j3 = nI 59
                    · rw [show (nI (bN (decide (tkK T L j3 = 2 ∧ ((vlV T L j3)) = nI 59)))) = (nI 1) from (congrArg nI (bN_t h59))]
                      have h60 : cc T L j3 = 60 := (sg_iff hT (by decide) (by decide)).mp h59
                      refine uV (nL := 5) (wr := [(r 1, .inl (ca 0, 38, .inl (rwN s1)))]) (ci := 4) (q0 := 0) (cq := (RX6, TX6, 34)) hx hb hml hown hts hK hA hP hD hS [.int (nI 1)] [] (c_X6_accept_1 l D ca m r ((upd (upd (upd (upd (upd (upd (upd (upd (upd g 8 a8) 9 a9) 10 x) 11 y) 12 (nI (nxT T L j3))) 13 (nI j3)) 14 (nI (tkK T L j3))) 15 ((vlV T L j3))) 16 ((-9)))) L hg7 T hL hT (nxT T L j3) rfl (nxT_le htj3.1).2 rfl) gX6_read_X6_accept rfl ⟨rfl, qX6_accept⟩ ⟨Nat.le_of_ble_eq_true rfl, Nat.le_of_ble_eq_true rfl⟩ rfl rfl [0, 2] [1] rfl rfl (by decide) (by decide) rfl hl.1 (Nat.le_of_ble_eq_true rfl) ⟨Nat.le_of_ble_eq_true rfl, Nat.le_of_ble_eq_true rfl⟩ dX6_read_143 (oneK (wsN := [(m, .inr (4, mF r (upd (upd (upd (upd (upd (upd (upd (upd (upd g 8 a8) 9 a9) 10 x) 11 y) 12 (nI (nxT T L (skN T L (nxT T L j3))))) 13 (nI (skN T L (nxT T L j3)))) 14 (nI (tkK T L (skN T L (nxT T L j3))))) 15 ((vlV T L (skN T L (nxT T L j3))))) 16 ((-9))))), (r 1, .inl (ca 0, 38, .inl (rwN s1))), (r 6, .inl (ca 0, 80, .inl (rwN T)))]) [1, 0, 2] (by decide) rfl (st1 := [.int ((vlV T L j3))]) rfl 0 0 rfl rfl (fun H locs hP hD hS => ?_))
                      have gj4 := go_x (E2 := 0) (X2 := adI X p k) hrj3 htj3 (by omega) (af_3e h60) (by decide)
                      obtain ⟨j4, hdj4⟩ : ∃ z, z = skN T L (nxT T L j3) := ⟨_, rfl⟩
                      rw [← hdj4] at gj4 hP hD
                      obtain ⟨hrj4, htj4, hltj4⟩ := gj4
                      have hlej4 := htj4.1
                      have hP : va_P D vwCl [(m, .inr (4, mF r (upd (upd (upd (upd (upd (upd (upd (upd (upd g 8 a8) 9 a9) 10 x) 11 y) 12 (nI (nxT T L j4))) 13 (nI j4)) 14 (nI (tkK T L j4))) 15 ((vlV T L j4))) 16 ((-9))))), (r 1, .inl (ca 0, 38, .inl (rwN s1))), (r 6, .inl (ca 0, 80, .inl (rwN T)))] H := hP
                      have hD : va_D A [(m, .inr (4, mF r (upd (upd (upd (upd (upd (upd (upd (upd (upd g 8 a8) 9 a9) 10 x) 11 y) 12 (nI (nxT T L j4))) 13 (nI j4)) 14 (nI (tkK T L j4))) 15 ((vlV T L j4))) 16 ((-9))))), (r 1, .inl (ca 0, 38, .inl (rwN s1))), (r 6, .inl (ca 0, 80, .inl (rwN T)))] := hD
                      refine lv_pop hx hb dX6_read_146 rfl ?_
                      refine lv_iload_n hx hb dX6_read_147 rfl (lv_at hl 2 rfl) ?_
                      refine lv_iload_n hx hb dX6_read_148 rfl (lv_at hl 4 rfl) ?_
                      refine n_if_eq (tgt := 162) hx hb dX6_read_149 (by decide) (by decide) (fun q => absurd q (by decide)) (fun _ => ?_)
                      refine lv_aload_n hx hb dX6_read_152 rfl (lv_at hl 3 rfl) ?_
                      refine lv_iload_n hx hb dX6_read_153 rfl (lv_at hl 1 rfl) ?_
                      refine lv_iload hx hb dX6_read_154 (lv_at hl 0 rfl) ?_
                      refine uV (nL := 5) (wr := [(r 6, .inl (ca 0, 80, .inl (rwN T)))]) (ci := 4) (q0 := 0) (cq := (RX6, TX6, 34)) hx hb hml hown hts hK hA hP hD hS [.int (nI p), .int (nI k)] [.int (nI (exN X X.1 0 S))] (c_X6_execute l D ca m r ((upd (upd (upd (upd (upd (upd (upd (upd (upd g 8 a8) 9 a9) 10 x) 11 y) 12 (nI (nxT T L j4))) 13 (nI j4)) 14 (nI (tkK T L j4))) 15 ((vlV T L j4))) 16 ((-9)))) s1 S1 hs1 hok1 p k (by rw [h11]; exact hpS) (by omega)) gX6_read_X6_execute rfl ⟨rfl, qX6_execute⟩ ⟨Nat.le_of_ble_eq_true rfl, Nat.le_of_ble_eq_true rfl⟩ rfl rfl [0, 1] [2] rfl rfl (by decide) (by decide) rfl hl.1 (Nat.le_of_ble_eq_true rfl) ⟨Nat.le_of_ble_eq_true rfl, Nat.le_of_ble_eq_true rfl⟩ dX6_read_156 (fun v1 W1 H locs hO hP hD hS => ?_)
                      obtain ⟨rfl, s2, x2, y2, hs2, rfl⟩ := hO
                      have hP : va_P D vwCl [(m, .inr (4, mF r (upd (upd (upd (upd (upd (upd (upd (upd (upd g 8 (nI (regs ((runS k S1 p) 3)))) 9 (nI (qn ((runS k S1 p) 3)))) 10 x2) 11 y2) 12 (nI (nxT T L j4))) 13 (nI j4)) 14 (nI (tkK T L j4))) 15 ((vlV T L j4))) 16 ((-9))))), (r 1, .inl (ca 0, 38, .inl (rwN s2))), (r 6, .inl (ca 0, 80, .inl (rwN T)))] H := hP.sub [1, 2, 0] rfl
                      have hD : va_D A [(m, .inr (4, mF r (upd (upd (upd (upd (upd (upd (upd (upd (upd g 8 (nI (regs ((runS k S1 p) 3)))) 9 (nI (qn ((runS k S1 p) 3)))) 10 x2) 11 y2) 12 (nI (nxT T L j4))) 13 (nI j4)) 14 (nI (tkK T L j4))) 15 ((vlV T L j4))) 16 ((-9))))), (r 1, .inl (ca 0, 38, .inl (rwN s2))), (r 6, .inl (ca 0, 80, .inl (rwN T)))] := hD.sub [1, 2, 0] (by decide) rfl
                      refine W.eq (g2 := F0 m_ 159 ls [.int (nI (runN k S1 p)), .int (nI (exN X X.1 0 S))]) rfl ?_
                      refine lv_goto (tgt := 163) hx hb dX6_read_159 (by decide) ?_
                      refine n_iadd hx hb dX6_read_163 ?_
                      rw [show (nI ((exN X X.1 0 S) + (runN k S1 p))) = (nI (exN (adI X p k) (adI X p k).1 0 S)) from (by rw [show exN (adI X p k) (adI X p k).1 0 S = exN X X.1 0 S + runN k (exS X X.1 0 S) p from adI_N X p k S, ← hS1])]
                      refine lv_istore_n (lv' := [(2, .int (nI (exN (adI X p k) (adI X p k).1 0 S))), (4, .int (nI k)), (3, .int (nI p)), (0, .ref m), (1, .int (nI 1))]) hx hb dX6_read_164 rfl hl (by decide) rfl (fun ls hl => ?_)
                      refine lv_goto (tgt := 32) hx hb dX6_read_165 (by decide) ?_
                      exact ih32 j4 ((adI X p k)) s2 ((runS k S1 p)) ((nI (regs ((runS k S1 p) 3)))) ((nI (qn ((runS k S1 p) 3)))) x2 y2 htj4 hrj4 (Or.inl (Nat.succ_pos X.1)) htj4.1 (by omega) hs2 (SOK_run k S1 p hok1 (by have := hok.2.1; omega)) ((runS_1 k S1 p).trans h11) (by rw [hS1]; exact (adI_S X p k S).symm) H locs hP hD hS ls (lv_sub hl [0, 3, 4] rfl)
                    · rw [show (nI (bN (decide (tkK T L j3 = 2 ∧ ((vlV T L j3)) = nI 59)))) = (nI 0) from (congrArg nI (bN_f h59))]
                      have h60 : cc T L j3 ≠ 60 := fun z => h59 ((sg_iff hT (by decide) (by decide)).mpr z)
                      have hE : (rdF T L (S 1) L 0 0 X0).1 = j3 + 1 := rE (congrArg Prod.fst hrj3) htj3 (by decide) (af_3n h60)
                      exact absurd h00 (by rw [hE]; exact Nat.succ_ne_zero _)
    have hl : lv_has ls 5 [(2, .int (nI (exN X0 X0.1 0 S))), (0, .ref m), (1, .int (nI 1))] := by rw [hX0]; exact hl
    exact loop32 (L + 1) j X0 s S ((g 8)) ((g 9)) ((g 10)) ((g 11)) htj hrj (Or.inr (Nat.lt_of_le_of_ne htj.1 (fun z => c19 ((tk_0 htj.1).mpr z)))) htj.1 (by omega) hs hok rfl (by rw [hX0]; rfl) _ _ hP hD hS ls (lv_sub hl [0, 1, 2] rfl)
  · have hjL : j = L := (tk_0 htj.1).mp c19
    have hE : (rdF T L (S 1) L 0 0 X0).1 = j + 1 := by rw [hrj, hjL, rd_end, if_neg (fun z => absurd z.2 (by rw [hX0]; exact Nat.lt_irrefl 0))]
    exact absurd h00 (by rw [hE]; exact Nat.succ_ne_zero _)

