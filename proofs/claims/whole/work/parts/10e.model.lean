/-! ===== the model: changes, undo, slots ===== -/
/-- behind a change: n2 states kept, nothing explored -/
def scx (g g2 : Nat → Int32) (n2 : Nat) : Prop := g2 3 = nI n2 ∧ g2 7 = g 7 ∧ g2 24 = nI 0
/-- the text's length is L2 now -/
def sc7 (g g2 : Nat → Int32) (L2 : Nat) : Prop := g2 3 = g 3 ∧ g2 7 = nI L2 ∧ ∀ k, 22 ≤ k → g2 k = g k
def mchO (ca : Nat → ClassId) (m : Nat) (r : Nat → Nat) (g : Nat → Int32) (s h : Nat → Nat) (n : Nat) (ok : Prop) (ans : Int32) (S2 : Nat → Nat) : Option Value → va_W → Prop := fun v W1 => v = some (.int ans) ∧
  ((ok ∧ ∃ (g2 : Nat → Int32) (s2 : Nat → Nat), scx g g2 (kpN n) ∧ MR s2 S2 ∧ W1 = [(m, .inr (4, mF r g2)), (r 1, .inl (ca 0, 38, .inl (rwN s2))), (r 2, .inl (ca 0, 304, .inl (rwN ((kpH n s h)))))]) ∨ (¬ ok ∧ ∃ g2 : Nat → Int32, scr g g2 ∧ W1 = [(m, .inr (4, mF r g2)), (r 1, .inl (ca 0, 38, .inl (rwN s))), (r 2, .inl (ca 0, 304, .inl (rwN h)))]))
theorem crs_MR {s S : Nat → Nat} {p : Nat} (hs : MR s S) (hp : p < 3) : MR (va_up s 4 (sF (qn (S 3)) (8 * p) 8 (3 + 4 * spC (S 3) p + 64 * phC (S 3) p))) (crsS S p) := by
  intro j hj
  by_cases e : j = 4
  · subst e
    rw [vu_e rfl]
    show _ = qn (sF (S 3) (8 * p) 2 3)
    refine (qn_set hp ?_ (fun q hq hn => fl3_other (by decide) hp hq hn (by omega) (by omega))).symm
    unfold qb
    rw [fl3_status (by decide)]
    show 3 + 4 * (if (3 : Nat) = 2 then 15 else spC (S 3) p) + 64 * phC (S 3) p = _
    rw [if_neg (by decide)]
  · rw [vu_n e, hs j hj]
    rcases mS_case hj with rfl | rfl | rfl | rfl | rfl | ⟨q, hq, rfl⟩ | ⟨t, ht, rfl⟩ | ⟨t, ht, rfl⟩ | ⟨t, ht, rfl⟩
    · rfl
    · rfl
    · rfl
    · show regs (S 3) = regs (sF (S 3) (8 * p) 2 3); exact (regs_lo (by decide) (by omega)).symm
    · exact absurd rfl e
    · rw [mS_4 _ hq, mS_4 _ hq]; rfl
    · rw [mS_5 _ ht, mS_5 _ ht]; rfl
    · rw [mS_6 _ ht, mS_6 _ ht]; rfl
    · rw [mS_7 _ ht, mS_7 _ ht]; rfl
theorem ldR_MR {z : Nat → Nat} {o : Nat} {s S : Nat → Nat} (h : ∀ j, j < 38 → z (o + j) = mS S j) : MR (ldR z o s 38) S := fun j hj => by
  unfold ldR
  rw [if_pos hj]
  exact h j hj
theorem inR_2 {q : Int32} (h : ¬ q < nI 0 ∧ ¬ nI 1 < q) : ∃ j, j < 2 ∧ q = nI j := by
  obtain ⟨x, h0, h1, rfl⟩ := rgN (lo := 0) (hi := 1) h.1 h.2 (by decide) (by decide)
  exact ⟨x, by omega, rfl⟩
theorem inR_2n {q : Int32} (h : ¬ (¬ q < nI 0 ∧ ¬ nI 1 < q)) : ¬ inR 2 q := fun z => h (by
  obtain ⟨j, hj, rfl⟩ := inR_j (by decide) z
  exact ⟨nI_pos (by omega), fun y => by have := (nI_ltI (by decide) (by omega)).mp y; omega⟩)

set_option maxHeartbeats 4000000 in
set_option maxRecDepth 100000 in
theorem c_X6_configure (l : Launch) (D : va_G) (ca : Nat → ClassId) (m : Nat) (r : Nat → Nat) (g : Nat → Int32) (s S : Nat → Nat) (hs : MR s S) (hok : SOK S) (h : Nat → Nat) (n : Nat) (hn : n ≤ 8) (hg3 : g 3 = nI n) (a b c : Int32) : UP l D ca yX6_configure wsX6_configure 1 24 0 0 [(m, .inr (4, mF r g)), (r 1, .inl (ca 0, 38, .inl (rwN s))), (r 2, .inl (ca 0, 304, .inl (rwN h)))] [.ref m, .int a, .int b, .int c] (mchO ca m r g s h n (cfgOK a b c) (ansCfg a b c) (begS a.toNatClampNeg b.toNatClampNeg c.toNatClampNeg)) := by
  refine UP.start (cc := cX6_configure) (maxL := 4) (ret := (some .int)) (by decide) rfl (Nat.le_of_ble_eq_true rfl) ?_
  intro p_ e_ s_ m_ below_ meth_ c_ A hx hb hml hr hlocks hin hown hts hK hA hP hD hS ls hl
  have hown : s_.vm.findClass RX6 = some m_.cls := hown
  have hl : lv_has ls 4 [(0, .ref m), (1, .int a), (2, .int b), (3, .int c)] := hl
  have hinX60 : ∀ w ∈ wsX60, w ∈ wsX6_configure := fun w h => List.mem_cons_of_mem _ (List.mem_append_right _ h)
  refine lv_aload_n hx hb dX6_configure_0 rfl (lv_at hl 0 rfl) ?_
  refine lv_iconst (v := nI 0) hx hb dX6_configure_1 (by decide) ?_
  refine va_put (D := D) (ci := 4) (v := .int (nI 0)) (ty := tyX6 0) (C := RX6) (T := TX6) (N := 34) hx hb hts hinX60 tyX6 tyX6_ok nmX6 hown hK.1 hP hD hS 0 rfl rfl 0 (by decide) (hts (.fieldLink RX6 57 "RenamingGridModel" "thrown" "I") (List.mem_of_getElem? (i := 1) rfl)) (fun _ h9 => h9) rfl (tyX6_ok 0 (by decide)) rfl rfl (Nat.le_of_ble_eq_true rfl) dX6_configure_2 (fun H locs hP hD hS => ?_)
  have hP : va_P D vwCl [(m, .inr (4, mF r (upd g 0 (nI 0)))), (r 1, .inl (ca 0, 38, .inl (rwN s))), (r 2, .inl (ca 0, 304, .inl (rwN h)))] H := hP
  have hD : va_D A [(m, .inr (4, mF r (upd g 0 (nI 0)))), (r 1, .inl (ca 0, 38, .inl (rwN s))), (r 2, .inl (ca 0, 304, .inl (rwN h)))] := hD
  refine lv_iload_n hx hb dX6_configure_5 rfl (lv_at hl 1 rfl) ?_
  refine lv_iconst (v := nI 2) hx hb dX6_configure_6 (by decide) ?_
  refine lv_iconst (v := nI 4) hx hb dX6_configure_7 (by decide) ?_
  refine rdS (nL := 4) hx hb hml hown hts hK hP [.int a, .int (nI 2), .int (nI 4)] [] (c_X6_in l D ca a (nI 2) (nI 4)) gX6_configure_X6_in rfl qX6_in ⟨Nat.le_of_ble_eq_true rfl, Nat.le_of_ble_eq_true rfl⟩ [] rfl rfl hl.1 (Nat.le_of_ble_eq_true rfl) ⟨Nat.le_of_ble_eq_true rfl, Nat.le_of_ble_eq_true rfl⟩ dX6_configure_8 ?_
  refine n_if_eq (tgt := 32) hx hb dX6_configure_11 (by decide) (bN_b _) (fun c11 => ?_) (fun c11 => ?_)
  · rw [bN_0] at c11
    refine lv_iconst (v := -1) hx hb dX6_configure_32 (by decide) ?_
    have hno : ¬ cfgOK a b c := fun z => c11 ⟨z.1, z.2.1⟩
    exact uRetI hx hb hr hlocks hK hP hD hS ⟨by unfold ansCfg; rw [if_neg hno], Or.inr ⟨hno, _, (scr_u (by decide) (scr_r _)), rfl⟩⟩ (Nat.le_of_ble_eq_true rfl) (Nat.le_of_ble_eq_true rfl) dX6_configure_33
  · rw [bN_1] at c11
    refine lv_iload_n hx hb dX6_configure_14 rfl (lv_at hl 2 rfl) ?_
    refine lv_iconst (v := nI 1) hx hb dX6_configure_15 (by decide) ?_
    refine lv_iconst (v := nI 3) hx hb dX6_configure_16 (by decide) ?_
    refine rdS (nL := 4) hx hb hml hown hts hK hP [.int b, .int (nI 1), .int (nI 3)] [] (c_X6_in l D ca b (nI 1) (nI 3)) gX6_configure_X6_in rfl qX6_in ⟨Nat.le_of_ble_eq_true rfl, Nat.le_of_ble_eq_true rfl⟩ [] rfl rfl hl.1 (Nat.le_of_ble_eq_true rfl) ⟨Nat.le_of_ble_eq_true rfl, Nat.le_of_ble_eq_true rfl⟩ dX6_configure_17 ?_
    refine n_if_eq (tgt := 32) hx hb dX6_configure_20 (by decide) (bN_b _) (fun c20 => ?_) (fun c20 => ?_)
    · rw [bN_0] at c20
      refine lv_iconst (v := -1) hx hb dX6_configure_32 (by decide) ?_
      have hno : ¬ cfgOK a b c := fun z => c20 ⟨z.2.2.1, z.2.2.2.1⟩
      exact uRetI hx hb hr hlocks hK hP hD hS ⟨by unfold ansCfg; rw [if_neg hno], Or.inr ⟨hno, _, (scr_u (by decide) (scr_r _)), rfl⟩⟩ (Nat.le_of_ble_eq_true rfl) (Nat.le_of_ble_eq_true rfl) dX6_configure_33
    · rw [bN_1] at c20
      refine lv_iload_n hx hb dX6_configure_23 rfl (lv_at hl 3 rfl) ?_
      refine lv_iconst (v := nI 0) hx hb dX6_configure_24 (by decide) ?_
      refine lv_iconst (v := nI 2) hx hb dX6_configure_25 (by decide) ?_
      refine rdS (nL := 4) hx hb hml hown hts hK hP [.int c, .int (nI 0), .int (nI 2)] [] (c_X6_in l D ca c (nI 0) (nI 2)) gX6_configure_X6_in rfl qX6_in ⟨Nat.le_of_ble_eq_true rfl, Nat.le_of_ble_eq_true rfl⟩ [] rfl rfl hl.1 (Nat.le_of_ble_eq_true rfl) ⟨Nat.le_of_ble_eq_true rfl, Nat.le_of_ble_eq_true rfl⟩ dX6_configure_26 ?_
      refine n_if_ne (tgt := 34) hx hb dX6_configure_29 (by decide) (bN_b _) (fun c29 => ?_) (fun c29 => ?_)
      · rw [bN_1] at c29
        have hyes : cfgOK a b c := ⟨c11.1, c11.2, c20.1, c20.2, c29.1, c29.2⟩
        obtain ⟨z, hz1, hz2, rfl⟩ := rgN c11.1 c11.2 (by decide) (by decide)
        obtain ⟨y, hy1, hy2, rfl⟩ := rgN c20.1 c20.2 (by decide) (by decide)
        obtain ⟨x, hx1, hx2, rfl⟩ := rgN (lo := 0) c29.1 c29.2 (by decide) (by decide)
        refine lv_aload_n hx hb dX6_configure_34 rfl (lv_at hl 0 rfl) ?_
        refine uV (nL := 4) (wr := []) (ci := 4) (q0 := 0) (cq := (RX6, TX6, 34)) hx hb hml hown hts hK hA hP hD hS [] [] (c_X6_keep l D ca m r ((upd g 0 (nI 0))) s h n hn hg3) gX6_configure_X6_keep rfl ⟨rfl, qX6_keep⟩ ⟨Nat.le_of_ble_eq_true rfl, Nat.le_of_ble_eq_true rfl⟩ rfl rfl [0, 1, 2] [] rfl rfl (by decide) (by decide) rfl hl.1 (Nat.le_of_ble_eq_true rfl) ⟨Nat.le_of_ble_eq_true rfl, Nat.le_of_ble_eq_true rfl⟩ dX6_configure_35 (oneK (wsN := [(m, .inr (4, mF r (upd (upd (upd g 0 (nI 0)) 3 (nI (kpN n))) 24 (nI 0)))), (r 1, .inl (ca 0, 38, .inl (rwN s))), (r 2, .inl (ca 0, 304, .inl (rwN ((kpH n s h)))))]) [0, 1, 2] (by decide) rfl (st1 := []) rfl 0 0 rfl rfl (fun H locs hP hD hS => ?_))
        refine lv_aload_n hx hb dX6_configure_38 rfl (lv_at hl 0 rfl) ?_
        refine lv_iload_n hx hb dX6_configure_39 rfl (lv_at hl 1 rfl) ?_
        refine lv_iload_n hx hb dX6_configure_40 rfl (lv_at hl 2 rfl) ?_
        refine lv_iload_n hx hb dX6_configure_41 rfl (lv_at hl 3 rfl) ?_
        refine uV (nL := 4) (wr := [(r 2, .inl (ca 0, 304, .inl (rwN ((kpH n s h)))))]) (ci := 4) (q0 := 0) (cq := (RX6, TX6, 34)) hx hb hml hown hts hK hA hP hD hS [.int (nI z), .int (nI y), .int (nI x)] [] (c_X6_begin l D ca m r ((upd (upd (upd g 0 (nI 0)) 3 (nI (kpN n))) 24 (nI 0))) s z y x) gX6_configure_X6_begin rfl ⟨rfl, qX6_begin⟩ ⟨Nat.le_of_ble_eq_true rfl, Nat.le_of_ble_eq_true rfl⟩ rfl rfl [0, 1] [2] rfl rfl (by decide) (by decide) rfl hl.1 (Nat.le_of_ble_eq_true rfl) ⟨Nat.le_of_ble_eq_true rfl, Nat.le_of_ble_eq_true rfl⟩ dX6_configure_42 (oneK (wsN := [(m, .inr (4, mF r (upd (upd (upd g 0 (nI 0)) 3 (nI (kpN n))) 24 (nI 0)))), (r 1, .inl (ca 0, 38, .inl (rwN (begR s z y x)))), (r 2, .inl (ca 0, 304, .inl (rwN ((kpH n s h)))))]) [1, 2, 0] (by decide) rfl (st1 := []) rfl 0 0 rfl rfl (fun H locs hP hD hS => ?_))
        refine lv_aload_n hx hb dX6_configure_45 rfl (lv_at hl 0 rfl) ?_
        refine rdV (nL := 4) (ci := 4) (q0 := 0) (cq := (RX6, TX6, 34)) hx hb hml hown hts hK hP [] [] (c_X6_names l D ca m r ((upd (upd (upd g 0 (nI 0)) 3 (nI (kpN n))) 24 (nI 0))) ((begR s z y x)) (begS z y x) (begR_MR s (by omega)) (SOK_beg ⟨hz1, hz2⟩ ⟨hy1, hy2⟩ hx2)) gX6_configure_X6_names rfl ⟨rfl, qX6_names⟩ ⟨Nat.le_of_ble_eq_true rfl, Nat.le_of_ble_eq_true rfl⟩ rfl rfl [0, 1] rfl rfl hl.1 (Nat.le_of_ble_eq_true rfl) ⟨Nat.le_of_ble_eq_true rfl, Nat.le_of_ble_eq_true rfl⟩ dX6_configure_46 ?_
        exact uRetI hx hb hr hlocks hK hP hD hS ⟨by unfold ansCfg; rw [if_pos hyes, nI_clamp (by omega), nI_clamp (by omega), nI_clamp (by omega)], Or.inl ⟨hyes, (upd (upd (upd g 0 (nI 0)) 3 (nI (kpN n))) 24 (nI 0)), begR s z y x, ⟨rfl, rfl, rfl⟩, by rw [nI_clamp (by omega), nI_clamp (by omega), nI_clamp (by omega)]; exact begR_MR s (by omega), rfl⟩⟩ (Nat.le_of_ble_eq_true rfl) (Nat.le_of_ble_eq_true rfl) dX6_configure_49
      · rw [bN_0] at c29
        refine lv_iconst (v := -1) hx hb dX6_configure_32 (by decide) ?_
        have hno : ¬ cfgOK a b c := fun z => c29 ⟨z.2.2.2.2.1, z.2.2.2.2.2⟩
        exact uRetI hx hb hr hlocks hK hP hD hS ⟨by unfold ansCfg; rw [if_neg hno], Or.inr ⟨hno, _, (scr_u (by decide) (scr_r _)), rfl⟩⟩ (Nat.le_of_ble_eq_true rfl) (Nat.le_of_ble_eq_true rfl) dX6_configure_33

set_option maxHeartbeats 4000000 in
set_option maxRecDepth 100000 in
theorem c_X6_step (l : Launch) (D : va_G) (ca : Nat → ClassId) (m : Nat) (r : Nat → Nat) (g : Nat → Int32) (s S : Nat → Nat) (hs : MR s S) (hok : SOK S) (h : Nat → Nat) (n : Nat) (hn : n ≤ 8) (hg3 : g 3 = nI n) (q : Int32) : UP l D ca yX6_step wsX6_step 4 93 0 0 [(m, .inr (4, mF r g)), (r 1, .inl (ca 0, 38, .inl (rwN s))), (r 2, .inl (ca 0, 304, .inl (rwN h)))] [.ref m, .int q] (mchO ca m r g s h n (stepOK S q) (ansStep S q) (advS S q.toNatClampNeg)) := by
  refine UP.start (cc := cX6_step) (maxL := 2) (ret := (some .int)) (by decide) rfl (Nat.le_of_ble_eq_true rfl) ?_
  intro p_ e_ s_ m_ below_ meth_ c_ A hx hb hml hr hlocks hin hown hts hK hA hP hD hS ls hl
  have hown : s_.vm.findClass RX6 = some m_.cls := hown
  have hl : lv_has ls 2 [(0, .ref m), (1, .int q)] := hl
  have hinX60 : ∀ w ∈ wsX60, w ∈ wsX6_step := fun w h => List.mem_cons_of_mem _ (List.mem_append_right _ h)
  have hn3 := hok.2.1
  refine lv_aload_n hx hb dX6_step_0 rfl (lv_at hl 0 rfl) ?_
  refine lv_iconst (v := nI 0) hx hb dX6_step_1 (by decide) ?_
  refine va_put (D := D) (ci := 4) (v := .int (nI 0)) (ty := tyX6 0) (C := RX6) (T := TX6) (N := 34) hx hb hts hinX60 tyX6 tyX6_ok nmX6 hown hK.1 hP hD hS 0 rfl rfl 0 (by decide) (hts (.fieldLink RX6 57 "RenamingGridModel" "thrown" "I") (List.mem_of_getElem? (i := 1) rfl)) (fun _ h9 => h9) rfl (tyX6_ok 0 (by decide)) rfl rfl (Nat.le_of_ble_eq_true rfl) dX6_step_2 (fun H locs hP hD hS => ?_)
  have hP : va_P D vwCl [(m, .inr (4, mF r (upd g 0 (nI 0)))), (r 1, .inl (ca 0, 38, .inl (rwN s))), (r 2, .inl (ca 0, 304, .inl (rwN h)))] H := hP
  have hD : va_D A [(m, .inr (4, mF r (upd g 0 (nI 0)))), (r 1, .inl (ca 0, 38, .inl (rwN s))), (r 2, .inl (ca 0, 304, .inl (rwN h)))] := hD
  refine lv_aload_n hx hb dX6_step_5 rfl (lv_at hl 0 rfl) ?_
  refine lv_iload_n hx hb dX6_step_6 rfl (lv_at hl 1 rfl) ?_
  refine rdV (nL := 2) (ci := 4) (q0 := 0) (cq := (RX6, TX6, 34)) hx hb hml hown hts hK hP [.int q] [] (c_X6_isProcess l D ca m r ((upd g 0 (nI 0))) s S hs hok q) gX6_step_X6_isProcess rfl ⟨rfl, qX6_isProcess⟩ ⟨Nat.le_of_ble_eq_true rfl, Nat.le_of_ble_eq_true rfl⟩ rfl rfl [0, 1] rfl rfl hl.1 (Nat.le_of_ble_eq_true rfl) ⟨Nat.le_of_ble_eq_true rfl, Nat.le_of_ble_eq_true rfl⟩ dX6_step_7 ?_
  refine n_if_ne (tgt := 15) hx hb dX6_step_10 (by decide) (bN_b _) (fun c10 => ?_) (fun c10 => ?_)
  · rw [bN_1] at c10
    obtain ⟨p, hp, rfl⟩ := inR_j (n := S 1) (by have := hok.2.1; omega) c10
    have hp3 : p < 3 := by have := hok.2.1; omega
    refine lv_aload_n hx hb dX6_step_15 rfl (lv_at hl 0 rfl) ?_
    refine uV (nL := 2) (wr := [(r 2, .inl (ca 0, 304, .inl (rwN h)))]) (ci := 4) (q0 := 0) (cq := (RX6, TX6, 34)) hx hb hml hown hts hK hA hP hD hS [] [] (c_X6_take l D ca m r ((upd g 0 (nI 0))) s S hs) gX6_step_X6_take rfl ⟨rfl, qX6_take⟩ ⟨Nat.le_of_ble_eq_true rfl, Nat.le_of_ble_eq_true rfl⟩ rfl rfl [0, 1] [2] rfl rfl (by decide) (by decide) rfl hl.1 (Nat.le_of_ble_eq_true rfl) ⟨Nat.le_of_ble_eq_true rfl, Nat.le_of_ble_eq_true rfl⟩ dX6_step_16 (oneK (wsN := [(m, .inr (4, mF r (upd (upd (upd g 0 (nI 0)) 8 (nI (regs (S 3)))) 9 (nI (qn (S 3)))))), (r 1, .inl (ca 0, 38, .inl (rwN s))), (r 2, .inl (ca 0, 304, .inl (rwN h)))]) [1, 2, 0] (by decide) rfl (st1 := []) rfl 0 0 rfl rfl (fun H locs hP hD hS => ?_))
    refine lv_aload_n hx hb dX6_step_19 rfl (lv_at hl 0 rfl) ?_
    refine lv_iload_n hx hb dX6_step_20 rfl (lv_at hl 1 rfl) ?_
    refine rdV (nL := 2) (ci := 4) (q0 := 0) (cq := (RX6, TX6, 34)) hx hb hml hown hts hK hP [.int (nI p)] [] (c_X6_statusIn l D ca m r ((upd (upd (upd g 0 (nI 0)) 8 (nI (regs (S 3)))) 9 (nI (qn (S 3))))) (qn (S 3)) rfl (qn_lt _) p hp3) gX6_step_X6_statusIn rfl ⟨rfl, qX6_statusIn⟩ ⟨Nat.le_of_ble_eq_true rfl, Nat.le_of_ble_eq_true rfl⟩ rfl rfl [0] rfl rfl hl.1 (Nat.le_of_ble_eq_true rfl) ⟨Nat.le_of_ble_eq_true rfl, Nat.le_of_ble_eq_true rfl⟩ dX6_step_21 ?_
    rw [show (nI (gF (qn (S 3)) (8 * p) 2)) = (nI (stC (S 3) p)) from (by rw [qn_st hp3])]
    refine n_if_eq (tgt := 30) hx hb dX6_step_24 (by decide) (stC_b _ _) (fun c24 => ?_) (fun c24 => ?_)
    · refine lv_aload_n hx hb dX6_step_30 rfl (lv_at hl 0 rfl) ?_
      refine uV (nL := 2) (wr := []) (ci := 4) (q0 := 0) (cq := (RX6, TX6, 34)) hx hb hml hown hts hK hA hP hD hS [] [] (c_X6_keep l D ca m r ((upd (upd (upd g 0 (nI 0)) 8 (nI (regs (S 3)))) 9 (nI (qn (S 3))))) s h n hn hg3) gX6_step_X6_keep rfl ⟨rfl, qX6_keep⟩ ⟨Nat.le_of_ble_eq_true rfl, Nat.le_of_ble_eq_true rfl⟩ rfl rfl [0, 1, 2] [] rfl rfl (by decide) (by decide) rfl hl.1 (Nat.le_of_ble_eq_true rfl) ⟨Nat.le_of_ble_eq_true rfl, Nat.le_of_ble_eq_true rfl⟩ dX6_step_31 (oneK (wsN := [(m, .inr (4, mF r (upd (upd (upd (upd (upd g 0 (nI 0)) 3 (nI (kpN n))) 8 (nI (regs (S 3)))) 9 (nI (qn (S 3)))) 24 (nI 0)))), (r 1, .inl (ca 0, 38, .inl (rwN s))), (r 2, .inl (ca 0, 304, .inl (rwN ((kpH n s h)))))]) [0, 1, 2] (by decide) rfl (st1 := []) rfl 0 0 rfl rfl (fun H locs hP hD hS => ?_))
      refine lv_aload_n hx hb dX6_step_34 rfl (lv_at hl 0 rfl) ?_
      refine lv_iload_n hx hb dX6_step_35 rfl (lv_at hl 1 rfl) ?_
      refine uV (nL := 2) (wr := [(r 2, .inl (ca 0, 304, .inl (rwN ((kpH n s h)))))]) (ci := 4) (q0 := 0) (cq := (RX6, TX6, 34)) hx hb hml hown hts hK hA hP hD hS [.int (nI p)] [] (c_X6_make l D ca m r ((upd (upd (upd (upd (upd g 0 (nI 0)) 3 (nI (kpN n))) 8 (nI (regs (S 3)))) 9 (nI (qn (S 3)))) 24 (nI 0))) s S hs hok p hp c24) gX6_step_X6_make rfl ⟨rfl, qX6_make⟩ ⟨Nat.le_of_ble_eq_true rfl, Nat.le_of_ble_eq_true rfl⟩ rfl rfl [0, 1] [2] rfl rfl (by decide) (by decide) rfl hl.1 (Nat.le_of_ble_eq_true rfl) ⟨Nat.le_of_ble_eq_true rfl, Nat.le_of_ble_eq_true rfl⟩ dX6_step_36 (oneK (wsN := [(m, .inr (4, mF r (upd (upd (upd (upd (upd (upd (upd g 0 (nI 0)) 3 (nI (kpN n))) 8 (nI (regs (advS S p 3)))) 9 (nI (qn (advS S p 3)))) 10 ((lfQ (S 3) p (S 0) (S 2)))) 11 ((wrQ ((g 11)) (S 3) p (S 0) (S 2)))) 24 (nI 0)))), (r 1, .inl (ca 0, 38, .inl (rwN ((mkR s S p))))), (r 2, .inl (ca 0, 304, .inl (rwN ((kpH n s h)))))]) [1, 2, 0] (by decide) rfl (st1 := [.int (nI (advA S p))]) rfl 0 0 rfl rfl (fun H locs hP hD hS => ?_))
      exact uRetI hx hb hr hlocks hK hP hD hS ⟨by unfold ansStep; rw [if_pos (inR_nI (by omega) hp), nI_clamp (by omega), if_pos c24], Or.inl ⟨⟨inR_nI (by omega) hp, by rw [nI_clamp (by omega)]; exact c24⟩, (upd (upd (upd (upd (upd (upd (upd g 0 (nI 0)) 3 (nI (kpN n))) 8 (nI (regs (advS S p 3)))) 9 (nI (qn (advS S p 3)))) 10 ((lfQ (S 3) p (S 0) (S 2)))) 11 ((wrQ ((g 11)) (S 3) p (S 0) (S 2)))) 24 (nI 0)), mkR s S p, ⟨rfl, rfl, rfl⟩, by rw [nI_clamp (by omega)]; exact mkR_MR s S p, rfl⟩⟩ (Nat.le_of_ble_eq_true rfl) (Nat.le_of_ble_eq_true rfl) dX6_step_39
    · refine lv_bipush (v := -2) hx hb dX6_step_27 (by decide) ?_
      exact uRetI hx hb hr hlocks hK hP hD hS ⟨by unfold ansStep; rw [if_pos (inR_nI (by omega) hp), nI_clamp (by omega), if_neg c24], Or.inr ⟨fun z => c24 (by have h2 := z.2; rw [nI_clamp (by omega)] at h2; exact h2), _, (scr_u (by decide) (scr_u (by decide) (scr_u (by decide) (scr_r _)))), rfl⟩⟩ (Nat.le_of_ble_eq_true rfl) (Nat.le_of_ble_eq_true rfl) dX6_step_29
  · rw [bN_0] at c10
    refine lv_iconst (v := -1) hx hb dX6_step_13 (by decide) ?_
    exact uRetI hx hb hr hlocks hK hP hD hS ⟨by unfold ansStep; rw [if_neg c10], Or.inr ⟨fun z => c10 z.1, _, (scr_u (by decide) (scr_r _)), rfl⟩⟩ (Nat.le_of_ble_eq_true rfl) (Nat.le_of_ble_eq_true rfl) dX6_step_14

set_option maxHeartbeats 4000000 in
set_option maxRecDepth 100000 in
theorem c_X6_crash (l : Launch) (D : va_G) (ca : Nat → ClassId) (m : Nat) (r : Nat → Nat) (g : Nat → Int32) (s S : Nat → Nat) (hs : MR s S) (hok : SOK S) (h : Nat → Nat) (n : Nat) (hn : n ≤ 8) (hg3 : g 3 = nI n) (q : Int32) : UP l D ca yX6_crash wsX6_crash 2 43 0 0 [(m, .inr (4, mF r g)), (r 1, .inl (ca 0, 38, .inl (rwN s))), (r 2, .inl (ca 0, 304, .inl (rwN h)))] [.ref m, .int q] (mchO ca m r g s h n (stepOK S q) (ansCrash S q) (crsS S q.toNatClampNeg)) := by
  refine UP.start (cc := cX6_crash) (maxL := 2) (ret := (some .int)) (by decide) rfl (Nat.le_of_ble_eq_true rfl) ?_
  intro p_ e_ s_ m_ below_ meth_ c_ A hx hb hml hr hlocks hin hown hts hK hA hP hD hS ls hl
  have hown : s_.vm.findClass RX6 = some m_.cls := hown
  have hl : lv_has ls 2 [(0, .ref m), (1, .int q)] := hl
  have hinX60 : ∀ w ∈ wsX60, w ∈ wsX6_crash := fun w h => List.mem_cons_of_mem _ (List.mem_append_right _ h)
  have hn3 := hok.2.1
  refine lv_aload_n hx hb dX6_crash_0 rfl (lv_at hl 0 rfl) ?_
  refine lv_iconst (v := nI 0) hx hb dX6_crash_1 (by decide) ?_
  refine va_put (D := D) (ci := 4) (v := .int (nI 0)) (ty := tyX6 0) (C := RX6) (T := TX6) (N := 34) hx hb hts hinX60 tyX6 tyX6_ok nmX6 hown hK.1 hP hD hS 0 rfl rfl 0 (by decide) (hts (.fieldLink RX6 57 "RenamingGridModel" "thrown" "I") (List.mem_of_getElem? (i := 1) rfl)) (fun _ h9 => h9) rfl (tyX6_ok 0 (by decide)) rfl rfl (Nat.le_of_ble_eq_true rfl) dX6_crash_2 (fun H locs hP hD hS => ?_)
  have hP : va_P D vwCl [(m, .inr (4, mF r (upd g 0 (nI 0)))), (r 1, .inl (ca 0, 38, .inl (rwN s))), (r 2, .inl (ca 0, 304, .inl (rwN h)))] H := hP
  have hD : va_D A [(m, .inr (4, mF r (upd g 0 (nI 0)))), (r 1, .inl (ca 0, 38, .inl (rwN s))), (r 2, .inl (ca 0, 304, .inl (rwN h)))] := hD
  refine lv_aload_n hx hb dX6_crash_5 rfl (lv_at hl 0 rfl) ?_
  refine lv_iload_n hx hb dX6_crash_6 rfl (lv_at hl 1 rfl) ?_
  refine rdV (nL := 2) (ci := 4) (q0 := 0) (cq := (RX6, TX6, 34)) hx hb hml hown hts hK hP [.int q] [] (c_X6_isProcess l D ca m r ((upd g 0 (nI 0))) s S hs hok q) gX6_crash_X6_isProcess rfl ⟨rfl, qX6_isProcess⟩ ⟨Nat.le_of_ble_eq_true rfl, Nat.le_of_ble_eq_true rfl⟩ rfl rfl [0, 1] rfl rfl hl.1 (Nat.le_of_ble_eq_true rfl) ⟨Nat.le_of_ble_eq_true rfl, Nat.le_of_ble_eq_true rfl⟩ dX6_crash_7 ?_
  refine n_if_ne (tgt := 15) hx hb dX6_crash_10 (by decide) (bN_b _) (fun c10 => ?_) (fun c10 => ?_)
  · rw [bN_1] at c10
    obtain ⟨p, hp, rfl⟩ := inR_j (n := S 1) (by have := hok.2.1; omega) c10
    have hp3 : p < 3 := by have := hok.2.1; omega
    refine lv_aload_n hx hb dX6_crash_15 rfl (lv_at hl 0 rfl) ?_
    refine uV (nL := 2) (wr := [(r 2, .inl (ca 0, 304, .inl (rwN h)))]) (ci := 4) (q0 := 0) (cq := (RX6, TX6, 34)) hx hb hml hown hts hK hA hP hD hS [] [] (c_X6_take l D ca m r ((upd g 0 (nI 0))) s S hs) gX6_crash_X6_take rfl ⟨rfl, qX6_take⟩ ⟨Nat.le_of_ble_eq_true rfl, Nat.le_of_ble_eq_true rfl⟩ rfl rfl [0, 1] [2] rfl rfl (by decide) (by decide) rfl hl.1 (Nat.le_of_ble_eq_true rfl) ⟨Nat.le_of_ble_eq_true rfl, Nat.le_of_ble_eq_true rfl⟩ dX6_crash_16 (oneK (wsN := [(m, .inr (4, mF r (upd (upd (upd g 0 (nI 0)) 8 (nI (regs (S 3)))) 9 (nI (qn (S 3)))))), (r 1, .inl (ca 0, 38, .inl (rwN s))), (r 2, .inl (ca 0, 304, .inl (rwN h)))]) [1, 2, 0] (by decide) rfl (st1 := []) rfl 0 0 rfl rfl (fun H locs hP hD hS => ?_))
    refine lv_aload_n hx hb dX6_crash_19 rfl (lv_at hl 0 rfl) ?_
    refine lv_iload_n hx hb dX6_crash_20 rfl (lv_at hl 1 rfl) ?_
    refine rdV (nL := 2) (ci := 4) (q0 := 0) (cq := (RX6, TX6, 34)) hx hb hml hown hts hK hP [.int (nI p)] [] (c_X6_statusIn l D ca m r ((upd (upd (upd g 0 (nI 0)) 8 (nI (regs (S 3)))) 9 (nI (qn (S 3))))) (qn (S 3)) rfl (qn_lt _) p hp3) gX6_crash_X6_statusIn rfl ⟨rfl, qX6_statusIn⟩ ⟨Nat.le_of_ble_eq_true rfl, Nat.le_of_ble_eq_true rfl⟩ rfl rfl [0] rfl rfl hl.1 (Nat.le_of_ble_eq_true rfl) ⟨Nat.le_of_ble_eq_true rfl, Nat.le_of_ble_eq_true rfl⟩ dX6_crash_21 ?_
    rw [show (nI (gF (qn (S 3)) (8 * p) 2)) = (nI (stC (S 3) p)) from (by rw [qn_st hp3])]
    refine n_if_eq (tgt := 30) hx hb dX6_crash_24 (by decide) (stC_b _ _) (fun c24 => ?_) (fun c24 => ?_)
    · refine lv_aload_n hx hb dX6_crash_30 rfl (lv_at hl 0 rfl) ?_
      refine uV (nL := 2) (wr := []) (ci := 4) (q0 := 0) (cq := (RX6, TX6, 34)) hx hb hml hown hts hK hA hP hD hS [] [] (c_X6_keep l D ca m r ((upd (upd (upd g 0 (nI 0)) 8 (nI (regs (S 3)))) 9 (nI (qn (S 3))))) s h n hn hg3) gX6_crash_X6_keep rfl ⟨rfl, qX6_keep⟩ ⟨Nat.le_of_ble_eq_true rfl, Nat.le_of_ble_eq_true rfl⟩ rfl rfl [0, 1, 2] [] rfl rfl (by decide) (by decide) rfl hl.1 (Nat.le_of_ble_eq_true rfl) ⟨Nat.le_of_ble_eq_true rfl, Nat.le_of_ble_eq_true rfl⟩ dX6_crash_31 (oneK (wsN := [(m, .inr (4, mF r (upd (upd (upd (upd (upd g 0 (nI 0)) 3 (nI (kpN n))) 8 (nI (regs (S 3)))) 9 (nI (qn (S 3)))) 24 (nI 0)))), (r 1, .inl (ca 0, 38, .inl (rwN s))), (r 2, .inl (ca 0, 304, .inl (rwN ((kpH n s h)))))]) [0, 1, 2] (by decide) rfl (st1 := []) rfl 0 0 rfl rfl (fun H locs hP hD hS => ?_))
      refine lv_aload_n hx hb dX6_crash_34 rfl (lv_at hl 0 rfl) ?_
      refine lv_iload_n hx hb dX6_crash_35 rfl (lv_at hl 1 rfl) ?_
      refine lv_iconst (v := nI 3) hx hb dX6_crash_36 (by decide) ?_
      refine lv_aload_n hx hb dX6_crash_37 rfl (lv_at hl 0 rfl) ?_
      refine lv_iload_n hx hb dX6_crash_38 rfl (lv_at hl 1 rfl) ?_
      refine rdV (nL := 2) (ci := 4) (q0 := 0) (cq := (RX6, TX6, 34)) hx hb hml hown hts hK hP [.int (nI p)] [.int (nI 3), .int (nI p), .ref m] (c_X6_splitterIn l D ca m r ((upd (upd (upd (upd (upd g 0 (nI 0)) 3 (nI (kpN n))) 8 (nI (regs (S 3)))) 9 (nI (qn (S 3)))) 24 (nI 0))) (qn (S 3)) rfl (qn_lt _) p hp3) gX6_crash_X6_splitterIn rfl ⟨rfl, qX6_splitterIn⟩ ⟨Nat.le_of_ble_eq_true rfl, Nat.le_of_ble_eq_true rfl⟩ rfl rfl [0] rfl rfl hl.1 (Nat.le_of_ble_eq_true rfl) ⟨Nat.le_of_ble_eq_true rfl, Nat.le_of_ble_eq_true rfl⟩ dX6_crash_39 ?_
      rw [show (nI (gF (qn (S 3)) (8 * p + 2) 4)) = (nI (spC (S 3) p)) from (by rw [qn_sp hp3, if_neg (by omega)])]
      refine lv_aload_n hx hb dX6_crash_42 rfl (lv_at hl 0 rfl) ?_
      refine lv_iload_n hx hb dX6_crash_43 rfl (lv_at hl 1 rfl) ?_
      refine rdV (nL := 2) (ci := 4) (q0 := 0) (cq := (RX6, TX6, 34)) hx hb hml hown hts hK hP [.int (nI p)] [.int (nI (spC (S 3) p)), .int (nI 3), .int (nI p), .ref m] (c_X6_phaseIn l D ca m r ((upd (upd (upd (upd (upd g 0 (nI 0)) 3 (nI (kpN n))) 8 (nI (regs (S 3)))) 9 (nI (qn (S 3)))) 24 (nI 0))) (qn (S 3)) rfl (qn_lt _) p hp3) gX6_crash_X6_phaseIn rfl ⟨rfl, qX6_phaseIn⟩ ⟨Nat.le_of_ble_eq_true rfl, Nat.le_of_ble_eq_true rfl⟩ rfl rfl [0] rfl rfl hl.1 (Nat.le_of_ble_eq_true rfl) ⟨Nat.le_of_ble_eq_true rfl, Nat.le_of_ble_eq_true rfl⟩ dX6_crash_44 ?_
      rw [show (nI (gF (qn (S 3)) (8 * p + 6) 2)) = (nI (phC (S 3) p)) from (by rw [qn_ph hp3])]
      refine uV (nL := 2) (wr := [(r 1, .inl (ca 0, 38, .inl (rwN s))), (r 2, .inl (ca 0, 304, .inl (rwN ((kpH n s h)))))]) (ci := 4) (q0 := 0) (cq := (RX6, TX6, 34)) hx hb hml hown hts hK hA hP hD hS [.int (nI p), .int (nI 3), .int (nI (spC (S 3) p)), .int (nI (phC (S 3) p))] [] (c_X6_setProcess l D ca m r ((upd (upd (upd (upd (upd g 0 (nI 0)) 3 (nI (kpN n))) 8 (nI (regs (S 3)))) 9 (nI (qn (S 3)))) 24 (nI 0))) (qn (S 3)) rfl (qn_lt _) p 3 (spC (S 3) p) (phC (S 3) p) hp3 (by decide) (by have := spC_lt (S 3) p; omega) (by have := phC_lt (S 3) p; omega)) gX6_crash_X6_setProcess rfl ⟨rfl, qX6_setProcess⟩ ⟨Nat.le_of_ble_eq_true rfl, Nat.le_of_ble_eq_true rfl⟩ rfl rfl [0] [1, 2] rfl rfl (by decide) (by decide) rfl hl.1 (Nat.le_of_ble_eq_true rfl) ⟨Nat.le_of_ble_eq_true rfl, Nat.le_of_ble_eq_true rfl⟩ dX6_crash_47 (oneK (wsN := [(m, .inr (4, mF r (upd (upd (upd (upd (upd g 0 (nI 0)) 3 (nI (kpN n))) 8 (nI (regs (S 3)))) 9 (nI (sF (qn (S 3)) (8 * p) 8 (3 + 4 * (spC (S 3) p) + 64 * (phC (S 3) p))))) 24 (nI 0)))), (r 1, .inl (ca 0, 38, .inl (rwN s))), (r 2, .inl (ca 0, 304, .inl (rwN ((kpH n s h)))))]) [2, 0, 1] (by decide) rfl (st1 := []) rfl 0 0 rfl rfl (fun H locs hP hD hS => ?_))
      refine lv_aload_n hx hb dX6_crash_50 rfl (lv_at hl 0 rfl) ?_
      refine va_get (D := D) (ci := 4) (v := .ref (r 1)) (C := RX6) (T := TX6) (N := 34) hx hb hts hinX60 hown hK.1 hP 0 rfl rfl 1 (by decide) (hts (.fieldLink RX6 7 "RenamingGridModel" "s" "[I") (List.mem_of_getElem? (i := 2) rfl)) (fun _ h9 => h9) rfl dX6_crash_51 ?_
      refine lv_iconst (v := nI 4) hx hb dX6_crash_54 (by decide) ?_
      refine lv_aload_n hx hb dX6_crash_55 rfl (lv_at hl 0 rfl) ?_
      refine va_get (D := D) (ci := 4) (v := .int (nI (sF (qn (S 3)) (8 * p) 8 (3 + 4 * (spC (S 3) p) + 64 * (phC (S 3) p))))) (C := RX6) (T := TX6) (N := 34) hx hb hts hinX60 hown hK.1 hP 0 rfl rfl 9 (by decide) (hts (.fieldLink RX6 61 "RenamingGridModel" "processes" "I") (List.mem_of_getElem? (i := 3) rfl)) (fun _ h9 => h9) rfl dX6_crash_56 ?_
      refine n_iast (D := D) (ca := ca) hx hb hK.1 hP hD hS 1 (f := (rwN s)) rfl (by omega) (by decide) dX6_crash_59 (fun H locs hP hD hS => ?_)
      have hP : va_P D vwCl [(m, .inr (4, mF r (upd (upd (upd (upd (upd g 0 (nI 0)) 3 (nI (kpN n))) 8 (nI (regs (S 3)))) 9 (nI (sF (qn (S 3)) (8 * p) 8 (3 + 4 * (spC (S 3) p) + 64 * (phC (S 3) p))))) 24 (nI 0)))), (r 1, .inl (ca 0, 38, .inl (upd (rwN s) 4 (nI (sF (qn (S 3)) (8 * p) 8 (3 + 4 * (spC (S 3) p) + 64 * (phC (S 3) p))))))), (r 2, .inl (ca 0, 304, .inl (rwN ((kpH n s h)))))] H := hP
      have hD : va_D A [(m, .inr (4, mF r (upd (upd (upd (upd (upd g 0 (nI 0)) 3 (nI (kpN n))) 8 (nI (regs (S 3)))) 9 (nI (sF (qn (S 3)) (8 * p) 8 (3 + 4 * (spC (S 3) p) + 64 * (phC (S 3) p))))) 24 (nI 0)))), (r 1, .inl (ca 0, 38, .inl (upd (rwN s) 4 (nI (sF (qn (S 3)) (8 * p) 8 (3 + 4 * (spC (S 3) p) + 64 * (phC (S 3) p))))))), (r 2, .inl (ca 0, 304, .inl (rwN ((kpH n s h)))))] := hD
      rw [rwN_up] at hP hD
      refine lv_aload_n hx hb dX6_crash_60 rfl (lv_at hl 0 rfl) ?_
      refine uV (nL := 2) (wr := [(r 2, .inl (ca 0, 304, .inl (rwN ((kpH n s h)))))]) (ci := 4) (q0 := 0) (cq := (RX6, TX6, 34)) hx hb hml hown hts hK hA hP hD hS [] [] (c_X6_running l D ca m r ((upd (upd (upd (upd (upd g 0 (nI 0)) 3 (nI (kpN n))) 8 (nI (regs (S 3)))) 9 (nI (sF (qn (S 3)) (8 * p) 8 (3 + 4 * (spC (S 3) p) + 64 * (phC (S 3) p))))) 24 (nI 0))) ((va_up s 4 (sF (qn (S 3)) (8 * p) 8 (3 + 4 * (spC (S 3) p) + 64 * (phC (S 3) p))))) ((crsS S p)) (crs_MR hs hp3) (SOK_crs hok hp3 c24)) gX6_crash_X6_running rfl ⟨rfl, qX6_running⟩ ⟨Nat.le_of_ble_eq_true rfl, Nat.le_of_ble_eq_true rfl⟩ rfl rfl [0, 1] [2] rfl rfl (by decide) (by decide) rfl hl.1 (Nat.le_of_ble_eq_true rfl) ⟨Nat.le_of_ble_eq_true rfl, Nat.le_of_ble_eq_true rfl⟩ dX6_crash_61 (oneK (wsN := [(m, .inr (4, mF r (upd (upd (upd (upd (upd g 0 (nI 0)) 3 (nI (kpN n))) 8 (nI (regs (((crsS S p)) 3)))) 9 (nI (qn (((crsS S p)) 3)))) 24 (nI 0)))), (r 1, .inl (ca 0, 38, .inl (rwN (va_up s 4 (sF (qn (S 3)) (8 * p) 8 (3 + 4 * (spC (S 3) p) + 64 * (phC (S 3) p))))))), (r 2, .inl (ca 0, 304, .inl (rwN ((kpH n s h)))))]) [1, 2, 0] (by decide) rfl (st1 := [.int (nI (runC (((crsS S p)) 3) (((crsS S p)) 1)))]) rfl 0 0 rfl rfl (fun H locs hP hD hS => ?_))
      exact uRetI hx hb hr hlocks hK hP hD hS ⟨by unfold ansCrash; rw [if_pos (inR_nI (by omega) hp), nI_clamp (by omega), if_pos c24]; rfl, Or.inl ⟨⟨inR_nI (by omega) hp, by rw [nI_clamp (by omega)]; exact c24⟩, (upd (upd (upd (upd (upd g 0 (nI 0)) 3 (nI (kpN n))) 8 (nI (regs (((crsS S p)) 3)))) 9 (nI (qn (((crsS S p)) 3)))) 24 (nI 0)), (va_up s 4 (sF (qn (S 3)) (8 * p) 8 (3 + 4 * spC (S 3) p + 64 * phC (S 3) p))), ⟨rfl, rfl, rfl⟩, by rw [nI_clamp (by omega)]; exact crs_MR hs hp3, rfl⟩⟩ (Nat.le_of_ble_eq_true rfl) (Nat.le_of_ble_eq_true rfl) dX6_crash_64
    · refine lv_bipush (v := -2) hx hb dX6_crash_27 (by decide) ?_
      exact uRetI hx hb hr hlocks hK hP hD hS ⟨by unfold ansCrash; rw [if_pos (inR_nI (by omega) hp), nI_clamp (by omega), if_neg c24], Or.inr ⟨fun z => c24 (by have h2 := z.2; rw [nI_clamp (by omega)] at h2; exact h2), _, (scr_u (by decide) (scr_u (by decide) (scr_u (by decide) (scr_r _)))), rfl⟩⟩ (Nat.le_of_ble_eq_true rfl) (Nat.le_of_ble_eq_true rfl) dX6_crash_29
  · rw [bN_0] at c10
    refine lv_iconst (v := -1) hx hb dX6_crash_13 (by decide) ?_
    exact uRetI hx hb hr hlocks hK hP hD hS ⟨by unfold ansCrash; rw [if_neg c10], Or.inr ⟨fun z => c10 z.1, _, (scr_u (by decide) (scr_r _)), rfl⟩⟩ (Nat.le_of_ble_eq_true rfl) (Nat.le_of_ble_eq_true rfl) dX6_crash_14

set_option maxHeartbeats 4000000 in
set_option maxRecDepth 100000 in
theorem c_X6_append (l : Launch) (D : va_G) (ca : Nat → ClassId) (m : Nat) (r : Nat → Nat) (g : Nat → Int32) (L : Nat) (hg7 : g 7 = nI L) (T : Nat → Nat) (hL : L ≤ 80) (q : Int32) : UP l D ca yX6_append wsX6_append 1 22 0 0 [(m, .inr (4, mF r g)), (r 6, .inl (ca 0, 80, .inl (rwN T)))] [.ref m, .int q] (fun v W1 => v = some (.int (ansApp L q)) ∧ (((chrOK q ∧ L < 80) ∧ ∃ g2 : Nat → Int32, sc7 g g2 (L + 1) ∧ W1 = [(m, .inr (4, mF r g2)), (r 6, .inl (ca 0, 80, .inl (rwN ((va_up T L q.toNatClampNeg)))))]) ∨ (¬ (chrOK q ∧ L < 80) ∧ ∃ g2 : Nat → Int32, scr g g2 ∧ W1 = [(m, .inr (4, mF r g2)), (r 6, .inl (ca 0, 80, .inl (rwN T)))]))) := by
  refine UP.start (cc := cX6_append) (maxL := 2) (ret := (some .int)) (by decide) rfl (Nat.le_of_ble_eq_true rfl) ?_
  intro p_ e_ s_ m_ below_ meth_ c_ A hx hb hml hr hlocks hin hown hts hK hA hP hD hS ls hl
  have hown : s_.vm.findClass RX6 = some m_.cls := hown
  have hl : lv_has ls 2 [(0, .ref m), (1, .int q)] := hl
  have hinX60 : ∀ w ∈ wsX60, w ∈ wsX6_append := fun w h => List.mem_cons_of_mem _ (List.mem_append_right _ h)
  refine lv_aload_n hx hb dX6_append_0 rfl (lv_at hl 0 rfl) ?_
  refine lv_iconst (v := nI 0) hx hb dX6_append_1 (by decide) ?_
  refine va_put (D := D) (ci := 4) (v := .int (nI 0)) (ty := tyX6 0) (C := RX6) (T := TX6) (N := 34) hx hb hts hinX60 tyX6 tyX6_ok nmX6 hown hK.1 hP hD hS 0 rfl rfl 0 (by decide) (hts (.fieldLink RX6 57 "RenamingGridModel" "thrown" "I") (List.mem_of_getElem? (i := 1) rfl)) (fun _ h9 => h9) rfl (tyX6_ok 0 (by decide)) rfl rfl (Nat.le_of_ble_eq_true rfl) dX6_append_2 (fun H locs hP hD hS => ?_)
  have hP : va_P D vwCl [(m, .inr (4, mF r (upd g 0 (nI 0)))), (r 6, .inl (ca 0, 80, .inl (rwN T)))] H := hP
  have hD : va_D A [(m, .inr (4, mF r (upd g 0 (nI 0)))), (r 6, .inl (ca 0, 80, .inl (rwN T)))] := hD
  refine lv_iload_n hx hb dX6_append_5 rfl (lv_at hl 1 rfl) ?_
  refine lv_iconst (v := nI 0) hx hb dX6_append_6 (by decide) ?_
  refine lv_sipush (v := nI 255) hx hb dX6_append_7 (by decide) ?_
  refine rdS (nL := 2) hx hb hml hown hts hK hP [.int q, .int (nI 0), .int (nI 255)] [] (c_X6_in l D ca q (nI 0) (nI 255)) gX6_append_X6_in rfl qX6_in ⟨Nat.le_of_ble_eq_true rfl, Nat.le_of_ble_eq_true rfl⟩ [] rfl rfl hl.1 (Nat.le_of_ble_eq_true rfl) ⟨Nat.le_of_ble_eq_true rfl, Nat.le_of_ble_eq_true rfl⟩ dX6_append_10 ?_
  refine n_if_ne (tgt := 18) hx hb dX6_append_13 (by decide) (bN_b _) (fun c13 => ?_) (fun c13 => ?_)
  · rw [bN_1] at c13
    have hch : chrOK q := ⟨c13.1, Int32.not_lt.mp c13.2⟩
    obtain ⟨x, hx1, hx2, rfl⟩ := rgN (lo := 0) c13.1 c13.2 (by decide) (by decide)
    refine lv_aload_n hx hb dX6_append_18 rfl (lv_at hl 0 rfl) ?_
    refine va_get (D := D) (ci := 4) (v := .int (nI L)) (C := RX6) (T := TX6) (N := 34) hx hb hts hinX60 hown hK.1 hP 0 rfl rfl 7 (by decide) (hts (.fieldLink RX6 144 "RenamingGridModel" "length" "I") (List.mem_of_getElem? (i := 2) rfl)) (fun _ h9 => h9) (congrArg (fun z => some (Value.int z)) hg7) dX6_append_19 ?_
    refine lv_bipush (v := nI 80) hx hb dX6_append_22 (by decide) ?_
    refine n_ic_ne (tgt := 30) hx hb dX6_append_24 (by decide) (by omega) (by decide) (fun c24 => ?_) (fun c24 => ?_)
    · refine lv_aload_n hx hb dX6_append_30 rfl (lv_at hl 0 rfl) ?_
      refine va_get (D := D) (ci := 4) (v := .ref (r 6)) (C := RX6) (T := TX6) (N := 34) hx hb hts hinX60 hown hK.1 hP 0 rfl rfl 6 (by decide) (hts (.fieldLink RX6 23 "RenamingGridModel" "text" "[I") (List.mem_of_getElem? (i := 3) rfl)) (fun _ h9 => h9) rfl dX6_append_31 ?_
      refine lv_aload_n hx hb dX6_append_34 rfl (lv_at hl 0 rfl) ?_
      refine va_get (D := D) (ci := 4) (v := .int (nI L)) (C := RX6) (T := TX6) (N := 34) hx hb hts hinX60 hown hK.1 hP 0 rfl rfl 7 (by decide) (hts (.fieldLink RX6 144 "RenamingGridModel" "length" "I") (List.mem_of_getElem? (i := 2) rfl)) (fun _ h9 => h9) (congrArg (fun z => some (Value.int z)) hg7) dX6_append_35 ?_
      refine lv_iload_n hx hb dX6_append_38 rfl (lv_at hl 1 rfl) ?_
      refine n_iast (D := D) (ca := ca) hx hb hK.1 hP hD hS 1 (f := (rwN T)) rfl (by omega) (by decide) dX6_append_39 (fun H locs hP hD hS => ?_)
      have hP : va_P D vwCl [(m, .inr (4, mF r (upd g 0 (nI 0)))), (r 6, .inl (ca 0, 80, .inl (upd (rwN T) L (nI x))))] H := hP
      have hD : va_D A [(m, .inr (4, mF r (upd g 0 (nI 0)))), (r 6, .inl (ca 0, 80, .inl (upd (rwN T) L (nI x))))] := hD
      rw [rwN_up] at hP hD
      refine lv_aload_n hx hb dX6_append_40 rfl (lv_at hl 0 rfl) ?_
      refine lv_dup hx hb dX6_append_41 rfl ?_
      refine va_get (D := D) (ci := 4) (v := .int (nI L)) (C := RX6) (T := TX6) (N := 34) hx hb hts hinX60 hown hK.1 hP 0 rfl rfl 7 (by decide) (hts (.fieldLink RX6 144 "RenamingGridModel" "length" "I") (List.mem_of_getElem? (i := 2) rfl)) (fun _ h9 => h9) (congrArg (fun z => some (Value.int z)) hg7) dX6_append_42 ?_
      refine lv_iconst (v := nI 1) hx hb dX6_append_45 (by decide) ?_
      refine n_iadd hx hb dX6_append_46 ?_
      refine va_put (D := D) (ci := 4) (v := .int (nI (L + 1))) (ty := tyX6 7) (C := RX6) (T := TX6) (N := 34) hx hb hts hinX60 tyX6 tyX6_ok nmX6 hown hK.1 hP hD hS 0 rfl rfl 7 (by decide) (hts (.fieldLink RX6 144 "RenamingGridModel" "length" "I") (List.mem_of_getElem? (i := 2) rfl)) (fun _ h9 => h9) rfl (tyX6_ok 7 (by decide)) rfl rfl (Nat.le_of_ble_eq_true rfl) dX6_append_47 (fun H locs hP hD hS => ?_)
      have hP : va_P D vwCl [(m, .inr (4, mF r (upd (upd g 0 (nI 0)) 7 (nI (L + 1))))), (r 6, .inl (ca 0, 80, .inl (rwN (va_up T L x))))] H := hP
      have hD : va_D A [(m, .inr (4, mF r (upd (upd g 0 (nI 0)) 7 (nI (L + 1))))), (r 6, .inl (ca 0, 80, .inl (rwN (va_up T L x))))] := hD
      refine lv_aload_n hx hb dX6_append_50 rfl (lv_at hl 0 rfl) ?_
      refine va_get (D := D) (ci := 4) (v := .int (nI (L + 1))) (C := RX6) (T := TX6) (N := 34) hx hb hts hinX60 hown hK.1 hP 0 rfl rfl 7 (by decide) (hts (.fieldLink RX6 144 "RenamingGridModel" "length" "I") (List.mem_of_getElem? (i := 2) rfl)) (fun _ h9 => h9) rfl dX6_append_51 ?_
      exact uRetI hx hb hr hlocks hK hP hD hS ⟨by unfold ansApp; rw [if_pos hch, if_neg (by omega)], Or.inl ⟨⟨hch, by omega⟩, (upd (upd g 0 (nI 0)) 7 (nI (L + 1))), ⟨rfl, rfl, fun k hk => by unfold upd; rw [if_neg (by omega), if_neg (by omega)]⟩, by rw [nI_clamp (by omega)]⟩⟩ (Nat.le_of_ble_eq_true rfl) (Nat.le_of_ble_eq_true rfl) dX6_append_54
    · refine lv_bipush (v := -3) hx hb dX6_append_27 (by decide) ?_
      exact uRetI hx hb hr hlocks hK hP hD hS ⟨by unfold ansApp; rw [if_pos hch, if_pos (by omega)], Or.inr ⟨fun z => by have := z.2; omega, _, (scr_u (by decide) (scr_r _)), rfl⟩⟩ (Nat.le_of_ble_eq_true rfl) (Nat.le_of_ble_eq_true rfl) dX6_append_29
  · rw [bN_0] at c13
    refine lv_iconst (v := -1) hx hb dX6_append_16 (by decide) ?_
    exact uRetI hx hb hr hlocks hK hP hD hS ⟨by unfold ansApp; rw [if_neg (fun z => c13 ⟨z.1, Int32.not_lt.mpr z.2⟩)], Or.inr ⟨fun z => c13 ⟨z.1.1, Int32.not_lt.mpr z.1.2⟩, _, (scr_u (by decide) (scr_r _)), rfl⟩⟩ (Nat.le_of_ble_eq_true rfl) (Nat.le_of_ble_eq_true rfl) dX6_append_17

set_option maxHeartbeats 4000000 in
set_option maxRecDepth 100000 in
theorem c_X6_clearText (l : Launch) (D : va_G) (ca : Nat → ClassId) (m : Nat) (r : Nat → Nat) (g : Nat → Int32) (L : Nat) (hg7 : g 7 = nI L) : UP l D ca yX6_clearText wsX6_clearText 0 0 0 0 [(m, .inr (4, mF r g))] [.ref m] (fun v W1 => v = some (.int (nI L)) ∧ ∃ g2 : Nat → Int32, sc7 g g2 0 ∧ W1 = [(m, .inr (4, mF r g2))]) := by
  refine UP.start (cc := cX6_clearText) (maxL := 2) (ret := (some .int)) (by decide) rfl (Nat.le_of_ble_eq_true rfl) ?_
  intro p_ e_ s_ m_ below_ meth_ c_ A hx hb hml hr hlocks hin hown hts hK hA hP hD hS ls hl
  have hown : s_.vm.findClass RX6 = some m_.cls := hown
  have hl : lv_has ls 2 [(0, .ref m)] := hl
  have hinX60 : ∀ w ∈ wsX60, w ∈ wsX6_clearText := fun w h => List.mem_cons_of_mem _ (List.mem_append_right _ h)
  refine lv_aload_n hx hb dX6_clearText_0 rfl (lv_at hl 0 rfl) ?_
  refine lv_iconst (v := nI 0) hx hb dX6_clearText_1 (by decide) ?_
  refine va_put (D := D) (ci := 4) (v := .int (nI 0)) (ty := tyX6 0) (C := RX6) (T := TX6) (N := 34) hx hb hts hinX60 tyX6 tyX6_ok nmX6 hown hK.1 hP hD hS 0 rfl rfl 0 (by decide) (hts (.fieldLink RX6 57 "RenamingGridModel" "thrown" "I") (List.mem_of_getElem? (i := 1) rfl)) (fun _ h9 => h9) rfl (tyX6_ok 0 (by decide)) rfl rfl (Nat.le_of_ble_eq_true rfl) dX6_clearText_2 (fun H locs hP hD hS => ?_)
  have hP : va_P D vwCl [(m, .inr (4, mF r (upd g 0 (nI 0))))] H := hP
  have hD : va_D A [(m, .inr (4, mF r (upd g 0 (nI 0))))] := hD
  refine lv_aload_n hx hb dX6_clearText_5 rfl (lv_at hl 0 rfl) ?_
  refine va_get (D := D) (ci := 4) (v := .int (nI L)) (C := RX6) (T := TX6) (N := 34) hx hb hts hinX60 hown hK.1 hP 0 rfl rfl 7 (by decide) (hts (.fieldLink RX6 144 "RenamingGridModel" "length" "I") (List.mem_of_getElem? (i := 2) rfl)) (fun _ h9 => h9) (congrArg (fun z => some (Value.int z)) hg7) dX6_clearText_6 ?_
  refine lv_istore_n (lv' := [(1, .int (nI L)), (0, .ref m)]) hx hb dX6_clearText_9 rfl hl (by decide) rfl (fun ls hl => ?_)
  refine lv_aload_n hx hb dX6_clearText_10 rfl (lv_at hl 1 rfl) ?_
  refine lv_iconst (v := nI 0) hx hb dX6_clearText_11 (by decide) ?_
  refine va_put (D := D) (ci := 4) (v := .int (nI 0)) (ty := tyX6 7) (C := RX6) (T := TX6) (N := 34) hx hb hts hinX60 tyX6 tyX6_ok nmX6 hown hK.1 hP hD hS 0 rfl rfl 7 (by decide) (hts (.fieldLink RX6 144 "RenamingGridModel" "length" "I") (List.mem_of_getElem? (i := 2) rfl)) (fun _ h9 => h9) rfl (tyX6_ok 7 (by decide)) rfl rfl (Nat.le_of_ble_eq_true rfl) dX6_clearText_12 (fun H locs hP hD hS => ?_)
  have hP : va_P D vwCl [(m, .inr (4, mF r (upd (upd g 0 (nI 0)) 7 (nI 0))))] H := hP
  have hD : va_D A [(m, .inr (4, mF r (upd (upd g 0 (nI 0)) 7 (nI 0))))] := hD
  refine lv_iload_n hx hb dX6_clearText_15 rfl (lv_at hl 0 rfl) ?_
  exact uRetI hx hb hr hlocks hK hP hD hS ⟨rfl, (upd (upd g 0 (nI 0)) 7 (nI 0)), ⟨rfl, rfl, fun k hk => by unfold upd; rw [if_neg (by omega), if_neg (by omega)]⟩, rfl⟩ (Nat.le_of_ble_eq_true rfl) (Nat.le_of_ble_eq_true rfl) dX6_clearText_16

set_option maxHeartbeats 4000000 in
set_option maxRecDepth 100000 in
theorem c_X6_undo (l : Launch) (D : va_G) (ca : Nat → ClassId) (m : Nat) (r : Nat → Nat) (g : Nat → Int32) (s h : Nat → Nat) (n : Nat) (hn : n ≤ 8) (hg3 : g 3 = nI n) : UP l D ca yX6_undo wsX6_undo 0 0 0 0 [(m, .inr (4, mF r g)), (r 1, .inl (ca 0, 38, .inl (rwN s))), (r 2, .inl (ca 0, 304, .inl (rwN h)))] [.ref m] (fun v W1 => (n = 0 ∧ v = some (.int (-2)) ∧ ∃ g2 : Nat → Int32, scr g g2 ∧ W1 = [(m, .inr (4, mF r g2)), (r 1, .inl (ca 0, 38, .inl (rwN s))), (r 2, .inl (ca 0, 304, .inl (rwN h)))]) ∨ (0 < n ∧ v = some (.int (nI (n - 1))) ∧ ∃ g2 : Nat → Int32, scx g g2 (n - 1) ∧ W1 = [(m, .inr (4, mF r g2)), (r 1, .inl (ca 0, 38, .inl (rwN ((ldR h (38 * (n - 1)) s 38))))), (r 2, .inl (ca 0, 304, .inl (rwN h)))])) := by
  refine UP.start (cc := cX6_undo) (maxL := 2) (ret := (some .int)) (by decide) rfl (Nat.le_of_ble_eq_true rfl) ?_
  intro p_ e_ s_ m_ below_ meth_ c_ A hx hb hml hr hlocks hin hown hts hK hA hP hD hS ls hl
  have hown : s_.vm.findClass RX6 = some m_.cls := hown
  have hl : lv_has ls 2 [(0, .ref m)] := hl
  have hinX60 : ∀ w ∈ wsX60, w ∈ wsX6_undo := fun w h => List.mem_cons_of_mem _ (List.mem_append_right _ h)
  refine lv_aload_n hx hb dX6_undo_0 rfl (lv_at hl 0 rfl) ?_
  refine lv_iconst (v := nI 0) hx hb dX6_undo_1 (by decide) ?_
  refine va_put (D := D) (ci := 4) (v := .int (nI 0)) (ty := tyX6 0) (C := RX6) (T := TX6) (N := 34) hx hb hts hinX60 tyX6 tyX6_ok nmX6 hown hK.1 hP hD hS 0 rfl rfl 0 (by decide) (hts (.fieldLink RX6 57 "RenamingGridModel" "thrown" "I") (List.mem_of_getElem? (i := 1) rfl)) (fun _ h9 => h9) rfl (tyX6_ok 0 (by decide)) rfl rfl (Nat.le_of_ble_eq_true rfl) dX6_undo_2 (fun H locs hP hD hS => ?_)
  have hP : va_P D vwCl [(m, .inr (4, mF r (upd g 0 (nI 0)))), (r 1, .inl (ca 0, 38, .inl (rwN s))), (r 2, .inl (ca 0, 304, .inl (rwN h)))] H := hP
  have hD : va_D A [(m, .inr (4, mF r (upd g 0 (nI 0)))), (r 1, .inl (ca 0, 38, .inl (rwN s))), (r 2, .inl (ca 0, 304, .inl (rwN h)))] := hD
  refine lv_aload_n hx hb dX6_undo_5 rfl (lv_at hl 0 rfl) ?_
  refine va_get (D := D) (ci := 4) (v := .int (nI n)) (C := RX6) (T := TX6) (N := 34) hx hb hts hinX60 hown hK.1 hP 0 rfl rfl 3 (by decide) (hts (.fieldLink RX6 108 "RenamingGridModel" "depth" "I") (List.mem_of_getElem? (i := 2) rfl)) (fun _ h9 => h9) (congrArg (fun z => some (Value.int z)) hg3) dX6_undo_6 ?_
  refine n_if_ne (tgt := 15) hx hb dX6_undo_9 (by decide) (by omega) (fun c9 => ?_) (fun c9 => ?_)
  · refine lv_aload_n hx hb dX6_undo_15 rfl (lv_at hl 0 rfl) ?_
    refine lv_dup hx hb dX6_undo_16 rfl ?_
    refine va_get (D := D) (ci := 4) (v := .int (nI n)) (C := RX6) (T := TX6) (N := 34) hx hb hts hinX60 hown hK.1 hP 0 rfl rfl 3 (by decide) (hts (.fieldLink RX6 108 "RenamingGridModel" "depth" "I") (List.mem_of_getElem? (i := 2) rfl)) (fun _ h9 => h9) (congrArg (fun z => some (Value.int z)) hg3) dX6_undo_17 ?_
    refine lv_iconst (v := nI 1) hx hb dX6_undo_20 (by decide) ?_
    refine n_isub hx hb (by omega) dX6_undo_21 ?_
    refine va_put (D := D) (ci := 4) (v := .int (nI (n - 1))) (ty := tyX6 3) (C := RX6) (T := TX6) (N := 34) hx hb hts hinX60 tyX6 tyX6_ok nmX6 hown hK.1 hP hD hS 0 rfl rfl 3 (by decide) (hts (.fieldLink RX6 108 "RenamingGridModel" "depth" "I") (List.mem_of_getElem? (i := 2) rfl)) (fun _ h9 => h9) rfl (tyX6_ok 3 (by decide)) rfl rfl (Nat.le_of_ble_eq_true rfl) dX6_undo_22 (fun H locs hP hD hS => ?_)
    have hP : va_P D vwCl [(m, .inr (4, mF r (upd (upd g 0 (nI 0)) 3 (nI (n - 1))))), (r 1, .inl (ca 0, 38, .inl (rwN s))), (r 2, .inl (ca 0, 304, .inl (rwN h)))] H := hP
    have hD : va_D A [(m, .inr (4, mF r (upd (upd g 0 (nI 0)) 3 (nI (n - 1))))), (r 1, .inl (ca 0, 38, .inl (rwN s))), (r 2, .inl (ca 0, 304, .inl (rwN h)))] := hD
    refine lv_iconst (v := nI 0) hx hb dX6_undo_25 (by decide) ?_
    refine lv_istore_n (lv' := [(1, .int (nI 0)), (0, .ref m)]) hx hb dX6_undo_26 rfl hl (by decide) rfl (fun ls hl => ?_)
    rw [← ldR_0 h (38 * (n - 1)) s] at hP hD
    have loop27 : ∀ (N_ : Nat) (k : Nat) (hk : k ≤ 38) (hf : 38 < k + N_), ∀ (H : Heap) (locs : List Loc), va_P D vwCl [(m, .inr (4, mF r (upd (upd g 0 (nI 0)) 3 (nI (n - 1))))), (r 1, .inl (ca 0, 38, .inl (rwN ((ldR h (38 * (n - 1)) s k))))), (r 2, .inl (ca 0, 304, .inl (rwN h)))] H → va_D A [(m, .inr (4, mF r (upd (upd g 0 (nI 0)) 3 (nI (n - 1))))), (r 1, .inl (ca 0, 38, .inl (rwN ((ldR h (38 * (n - 1)) s k))))), (r 2, .inl (ca 0, 304, .inl (rwN h)))] → va_S A s_.heap H locs → ∀ (ls : Array Slot), lv_has ls 2 [(1, .int (nI k)), (0, .ref m)] → W p_ l e_ ({ frames := 0, cells := 0, slots := 0, locals := 0 }) s_ m_ ([.ref m]).toArray below_ meth_ c_ H locs 0 0 (MQ below_ (uQA D ca A (fun v W1 => (n = 0 ∧ v = some (.int (-2)) ∧ ∃ g2 : Nat → Int32, scr g g2 ∧ W1 = [(m, .inr (4, mF r g2)), (r 1, .inl (ca 0, 38, .inl (rwN s))), (r 2, .inl (ca 0, 304, .inl (rwN h)))]) ∨ (0 < n ∧ v = some (.int (nI (n - 1))) ∧ ∃ g2 : Nat → Int32, scx g g2 (n - 1) ∧ W1 = [(m, .inr (4, mF r g2)), (r 1, .inl (ca 0, 38, .inl (rwN ((ldR h (38 * (n - 1)) s 38))))), (r 2, .inl (ca 0, 304, .inl (rwN h)))]))) ([.ref m]).toArray s_ 0 0 A) (F0 m_ 27 ls []) := by
      intro N_
      induction N_ with
      | zero => intro k hk hf; exfalso; omega
      | succ N_ ih27 =>
        intro k hk hf H locs hP hD hS ls hl
        refine lv_iload_n hx hb dX6_undo_27 rfl (lv_at hl 0 rfl) ?_
        refine lv_bipush (v := nI 38) hx hb dX6_undo_28 (by decide) ?_
        refine n_ic_ge (tgt := 59) hx hb dX6_undo_30 (by decide) (by omega) (by decide) (fun c30 => ?_) (fun c30 => ?_)
        · have hk38 : k = 38 := by omega
          subst hk38
          refine lv_aload_n hx hb dX6_undo_59 rfl (lv_at hl 1 rfl) ?_
          refine lv_iconst (v := nI 0) hx hb dX6_undo_60 (by decide) ?_
          refine va_put (D := D) (ci := 4) (v := .int (nI 0)) (ty := tyX6 24) (C := RX6) (T := TX6) (N := 34) hx hb hts hinX60 tyX6 tyX6_ok nmX6 hown hK.1 hP hD hS 0 rfl rfl 24 (by decide) (hts (.fieldLink RX6 111 "RenamingGridModel" "isExplored" "Z") (List.mem_of_getElem? (i := 5) rfl)) (fun _ h9 => h9) rfl (tyX6_ok 24 (by decide)) rfl rfl (Nat.le_of_ble_eq_true rfl) dX6_undo_61 (fun H locs hP hD hS => ?_)
          have hP : va_P D vwCl [(m, .inr (4, mF r (upd (upd (upd g 0 (nI 0)) 3 (nI (n - 1))) 24 (nI 0)))), (r 1, .inl (ca 0, 38, .inl (rwN ((ldR h (38 * (n - 1)) s 38))))), (r 2, .inl (ca 0, 304, .inl (rwN h)))] H := hP
          have hD : va_D A [(m, .inr (4, mF r (upd (upd (upd g 0 (nI 0)) 3 (nI (n - 1))) 24 (nI 0)))), (r 1, .inl (ca 0, 38, .inl (rwN ((ldR h (38 * (n - 1)) s 38))))), (r 2, .inl (ca 0, 304, .inl (rwN h)))] := hD
          refine lv_aload_n hx hb dX6_undo_64 rfl (lv_at hl 1 rfl) ?_
          refine va_get (D := D) (ci := 4) (v := .int (nI (n - 1))) (C := RX6) (T := TX6) (N := 34) hx hb hts hinX60 hown hK.1 hP 0 rfl rfl 3 (by decide) (hts (.fieldLink RX6 108 "RenamingGridModel" "depth" "I") (List.mem_of_getElem? (i := 2) rfl)) (fun _ h9 => h9) rfl dX6_undo_65 ?_
          exact uRetI hx hb hr hlocks hK hP hD hS (Or.inr ⟨by omega, rfl, (upd (upd (upd g 0 (nI 0)) 3 (nI (n - 1))) 24 (nI 0)), ⟨rfl, rfl, rfl⟩, rfl⟩) (Nat.le_of_ble_eq_true rfl) (Nat.le_of_ble_eq_true rfl) dX6_undo_68
        · refine lv_aload_n hx hb dX6_undo_33 rfl (lv_at hl 1 rfl) ?_
          refine va_get (D := D) (ci := 4) (v := .ref (r 1)) (C := RX6) (T := TX6) (N := 34) hx hb hts hinX60 hown hK.1 hP 0 rfl rfl 1 (by decide) (hts (.fieldLink RX6 7 "RenamingGridModel" "s" "[I") (List.mem_of_getElem? (i := 3) rfl)) (fun _ h9 => h9) rfl dX6_undo_34 ?_
          refine lv_iload_n hx hb dX6_undo_37 rfl (lv_at hl 0 rfl) ?_
          refine lv_aload_n hx hb dX6_undo_38 rfl (lv_at hl 1 rfl) ?_
          refine va_get (D := D) (ci := 4) (v := .ref (r 2)) (C := RX6) (T := TX6) (N := 34) hx hb hts hinX60 hown hK.1 hP 0 rfl rfl 2 (by decide) (hts (.fieldLink RX6 13 "RenamingGridModel" "history" "[I") (List.mem_of_getElem? (i := 4) rfl)) (fun _ h9 => h9) rfl dX6_undo_39 ?_
          refine lv_bipush (v := nI 38) hx hb dX6_undo_42 (by decide) ?_
          refine lv_aload_n hx hb dX6_undo_44 rfl (lv_at hl 1 rfl) ?_
          refine va_get (D := D) (ci := 4) (v := .int (nI (n - 1))) (C := RX6) (T := TX6) (N := 34) hx hb hts hinX60 hown hK.1 hP 0 rfl rfl 3 (by decide) (hts (.fieldLink RX6 108 "RenamingGridModel" "depth" "I") (List.mem_of_getElem? (i := 2) rfl)) (fun _ h9 => h9) rfl dX6_undo_45 ?_
          refine n_imul hx hb dX6_undo_48 ?_
          refine lv_iload_n hx hb dX6_undo_49 rfl (lv_at hl 0 rfl) ?_
          refine n_iadd hx hb dX6_undo_50 ?_
          refine n_iald (D := D) (ca := ca) (v := (nI (h ((38 * (n - 1)) + k)))) hx hb hK.1 hP 2 (f := (rwN h)) rfl (by omega) (by decide) rfl dX6_undo_51 ?_
          refine n_iast (D := D) (ca := ca) hx hb hK.1 hP hD hS 1 (f := (rwN ((ldR h (38 * (n - 1)) s k)))) rfl (by omega) (by decide) dX6_undo_52 (fun H locs hP hD hS => ?_)
          have hP : va_P D vwCl [(m, .inr (4, mF r (upd (upd g 0 (nI 0)) 3 (nI (n - 1))))), (r 1, .inl (ca 0, 38, .inl (upd (rwN ((ldR h (38 * (n - 1)) s k))) k (nI (h ((38 * (n - 1)) + k)))))), (r 2, .inl (ca 0, 304, .inl (rwN h)))] H := hP
          have hD : va_D A [(m, .inr (4, mF r (upd (upd g 0 (nI 0)) 3 (nI (n - 1))))), (r 1, .inl (ca 0, 38, .inl (upd (rwN ((ldR h (38 * (n - 1)) s k))) k (nI (h ((38 * (n - 1)) + k)))))), (r 2, .inl (ca 0, 304, .inl (rwN h)))] := hD
          rw [rwN_up] at hP hD
          rw [ldR_s h (38 * (n - 1)) s k] at hP hD
          refine lv_iinc (v := (nI (k + 1))) (lv' := [(1, .int (nI (k + 1))), (0, .ref m)]) hx hb dX6_undo_53 hl (k := 0) rfl (show nI k + Int32.ofInt 1 = nI (k + 1) from nI_add _ 1) (by decide) rfl (fun ls hl => ?_)
          refine lv_goto (tgt := 27) hx hb dX6_undo_56 (by decide) ?_
          exact ih27 (k + 1) (by omega) (by omega) H locs hP hD hS ls (lv_sub hl [0, 1] rfl)
    exact loop27 39 0 (by omega) (by omega) _ _ hP hD hS ls (lv_sub hl [0, 1] rfl)
  · refine lv_bipush (v := -2) hx hb dX6_undo_12 (by decide) ?_
    exact uRetI hx hb hr hlocks hK hP hD hS (Or.inl ⟨c9, rfl, _, (scr_u (by decide) (scr_r _)), rfl⟩) (Nat.le_of_ble_eq_true rfl) (Nat.le_of_ble_eq_true rfl) dX6_undo_14

set_option maxHeartbeats 4000000 in
set_option maxRecDepth 100000 in
theorem c_X6_save (l : Launch) (D : va_G) (ca : Nat → ClassId) (m : Nat) (r : Nat → Nat) (g : Nat → Int32) (s S : Nat → Nat) (hs : MR s S) (hok : SOK S) (z b : Nat → Nat) (q : Int32) : UP l D ca yX6_save wsX6_save 2 43 0 0 [(m, .inr (4, mF r g)), (r 1, .inl (ca 0, 38, .inl (rwN s))), (r 4, .inl (ca 0, 76, .inl (rwN z))), (r 5, .inl (ca 3, 2, .inl (rwN b)))] [.ref m, .int q] (fun v W1 => (¬ inR 2 q ∧ v = some (.int (-1)) ∧ ∃ g2 : Nat → Int32, scr g g2 ∧ W1 = [(m, .inr (4, mF r g2)), (r 1, .inl (ca 0, 38, .inl (rwN s))), (r 4, .inl (ca 0, 76, .inl (rwN z))), (r 5, .inl (ca 3, 2, .inl (rwN b)))]) ∨ (∃ j, j < 2 ∧ q = nI j ∧ v = some (.int (nI (runC (S 3) (S 1)))) ∧ ∃ g2 : Nat → Int32, scr g g2 ∧ W1 = [(m, .inr (4, mF r g2)), (r 1, .inl (ca 0, 38, .inl (rwN s))), (r 4, .inl (ca 0, 76, .inl (rwN ((kp2 s z (38 * j) 38))))), (r 5, .inl (ca 3, 2, .inl (rwN ((va_up b j 1)))))])) := by
  refine UP.start (cc := cX6_save) (maxL := 3) (ret := (some .int)) (by decide) rfl (Nat.le_of_ble_eq_true rfl) ?_
  intro p_ e_ s_ m_ below_ meth_ c_ A hx hb hml hr hlocks hin hown hts hK hA hP hD hS ls hl
  have hown : s_.vm.findClass RX6 = some m_.cls := hown
  have hl : lv_has ls 3 [(0, .ref m), (1, .int q)] := hl
  have hinX60 : ∀ w ∈ wsX60, w ∈ wsX6_save := fun w h => List.mem_cons_of_mem _ (List.mem_append_right _ h)
  refine lv_aload_n hx hb dX6_save_0 rfl (lv_at hl 0 rfl) ?_
  refine lv_iconst (v := nI 0) hx hb dX6_save_1 (by decide) ?_
  refine va_put (D := D) (ci := 4) (v := .int (nI 0)) (ty := tyX6 0) (C := RX6) (T := TX6) (N := 34) hx hb hts hinX60 tyX6 tyX6_ok nmX6 hown hK.1 hP hD hS 0 rfl rfl 0 (by decide) (hts (.fieldLink RX6 57 "RenamingGridModel" "thrown" "I") (List.mem_of_getElem? (i := 1) rfl)) (fun _ h9 => h9) rfl (tyX6_ok 0 (by decide)) rfl rfl (Nat.le_of_ble_eq_true rfl) dX6_save_2 (fun H locs hP hD hS => ?_)
  have hP : va_P D vwCl [(m, .inr (4, mF r (upd g 0 (nI 0)))), (r 1, .inl (ca 0, 38, .inl (rwN s))), (r 4, .inl (ca 0, 76, .inl (rwN z))), (r 5, .inl (ca 3, 2, .inl (rwN b)))] H := hP
  have hD : va_D A [(m, .inr (4, mF r (upd g 0 (nI 0)))), (r 1, .inl (ca 0, 38, .inl (rwN s))), (r 4, .inl (ca 0, 76, .inl (rwN z))), (r 5, .inl (ca 3, 2, .inl (rwN b)))] := hD
  refine lv_iload_n hx hb dX6_save_5 rfl (lv_at hl 1 rfl) ?_
  refine lv_iconst (v := nI 0) hx hb dX6_save_6 (by decide) ?_
  refine lv_iconst (v := nI 1) hx hb dX6_save_7 (by decide) ?_
  refine rdS (nL := 3) hx hb hml hown hts hK hP [.int q, .int (nI 0), .int (nI 1)] [] (c_X6_in l D ca q (nI 0) (nI 1)) gX6_save_X6_in rfl qX6_in ⟨Nat.le_of_ble_eq_true rfl, Nat.le_of_ble_eq_true rfl⟩ [] rfl rfl hl.1 (Nat.le_of_ble_eq_true rfl) ⟨Nat.le_of_ble_eq_true rfl, Nat.le_of_ble_eq_true rfl⟩ dX6_save_8 ?_
  refine n_if_ne (tgt := 16) hx hb dX6_save_11 (by decide) (bN_b _) (fun c11 => ?_) (fun c11 => ?_)
  · rw [bN_1] at c11
    obtain ⟨j, hj, hqj⟩ := inR_2 c11
    rw [hqj] at hl
    refine lv_iconst (v := nI 0) hx hb dX6_save_16 (by decide) ?_
    refine lv_istore_n (lv' := [(2, .int (nI 0)), (0, .ref m), (1, .int (nI j))]) hx hb dX6_save_17 rfl hl (by decide) rfl (fun ls hl => ?_)
    rw [← kp2_0 s z (38 * j)] at hP hD
    have loop18 : ∀ (N_ : Nat) (k : Nat) (hk : k ≤ 38) (hf : 38 < k + N_), ∀ (H : Heap) (locs : List Loc), va_P D vwCl [(m, .inr (4, mF r (upd g 0 (nI 0)))), (r 1, .inl (ca 0, 38, .inl (rwN s))), (r 4, .inl (ca 0, 76, .inl (rwN ((kp2 s z (38 * j) k))))), (r 5, .inl (ca 3, 2, .inl (rwN b)))] H → va_D A [(m, .inr (4, mF r (upd g 0 (nI 0)))), (r 1, .inl (ca 0, 38, .inl (rwN s))), (r 4, .inl (ca 0, 76, .inl (rwN ((kp2 s z (38 * j) k))))), (r 5, .inl (ca 3, 2, .inl (rwN b)))] → va_S A s_.heap H locs → ∀ (ls : Array Slot), lv_has ls 3 [(2, .int (nI k)), (0, .ref m), (1, .int (nI j))] → W p_ l e_ ({ frames := 2, cells := 0, slots := 0, locals := 43 }) s_ m_ ([.ref m, .int q]).toArray below_ meth_ c_ H locs 0 0 (MQ below_ (uQA D ca A (fun v W1 => (¬ inR 2 q ∧ v = some (.int (-1)) ∧ ∃ g2 : Nat → Int32, scr g g2 ∧ W1 = [(m, .inr (4, mF r g2)), (r 1, .inl (ca 0, 38, .inl (rwN s))), (r 4, .inl (ca 0, 76, .inl (rwN z))), (r 5, .inl (ca 3, 2, .inl (rwN b)))]) ∨ (∃ j, j < 2 ∧ q = nI j ∧ v = some (.int (nI (runC (S 3) (S 1)))) ∧ ∃ g2 : Nat → Int32, scr g g2 ∧ W1 = [(m, .inr (4, mF r g2)), (r 1, .inl (ca 0, 38, .inl (rwN s))), (r 4, .inl (ca 0, 76, .inl (rwN ((kp2 s z (38 * j) 38))))), (r 5, .inl (ca 3, 2, .inl (rwN ((va_up b j 1)))))]))) ([.ref m, .int q]).toArray s_ 0 0 A) (F0 m_ 18 ls []) := by
      intro N_
      induction N_ with
      | zero => intro k hk hf; exfalso; omega
      | succ N_ ih18 =>
        intro k hk hf H locs hP hD hS ls hl
        refine lv_iload_n hx hb dX6_save_18 rfl (lv_at hl 0 rfl) ?_
        refine lv_bipush (v := nI 38) hx hb dX6_save_19 (by decide) ?_
        refine n_ic_ge (tgt := 47) hx hb dX6_save_21 (by decide) (by omega) (by decide) (fun c21 => ?_) (fun c21 => ?_)
        · have hk38 : k = 38 := by omega
          subst hk38
          refine lv_aload_n hx hb dX6_save_47 rfl (lv_at hl 1 rfl) ?_
          refine va_get (D := D) (ci := 4) (v := .ref (r 5)) (C := RX6) (T := TX6) (N := 34) hx hb hts hinX60 hown hK.1 hP 0 rfl rfl 5 (by decide) (hts (.fieldLink RX6 19 "RenamingGridModel" "isSaved" "[Z") (List.mem_of_getElem? (i := 4) rfl)) (fun _ h9 => h9) rfl dX6_save_48 ?_
          refine lv_iload_n hx hb dX6_save_51 rfl (lv_at hl 2 rfl) ?_
          refine lv_iconst (v := nI 1) hx hb dX6_save_52 (by decide) ?_
          refine n_zast (D := D) (ca := ca) hx hb hK.1 hP hD hS 3 (f := (rwN b)) rfl (by omega) (by decide) rfl dX6_save_53 (fun H locs hP hD hS => ?_)
          have hP : va_P D vwCl [(m, .inr (4, mF r (upd g 0 (nI 0)))), (r 1, .inl (ca 0, 38, .inl (rwN s))), (r 4, .inl (ca 0, 76, .inl (rwN ((kp2 s z (38 * j) 38))))), (r 5, .inl (ca 3, 2, .inl (upd (rwN b) j (nI 1))))] H := hP
          have hD : va_D A [(m, .inr (4, mF r (upd g 0 (nI 0)))), (r 1, .inl (ca 0, 38, .inl (rwN s))), (r 4, .inl (ca 0, 76, .inl (rwN ((kp2 s z (38 * j) 38))))), (r 5, .inl (ca 3, 2, .inl (upd (rwN b) j (nI 1))))] := hD
          rw [rwN_up] at hP hD
          refine lv_aload_n hx hb dX6_save_54 rfl (lv_at hl 1 rfl) ?_
          refine uV (nL := 3) (wr := [(r 4, .inl (ca 0, 76, .inl (rwN ((kp2 s z (38 * j) 38))))), (r 5, .inl (ca 3, 2, .inl (rwN (va_up b j 1))))]) (ci := 4) (q0 := 0) (cq := (RX6, TX6, 34)) hx hb hml hown hts hK hA hP hD hS [] [] (c_X6_running l D ca m r ((upd g 0 (nI 0))) s S hs hok) gX6_save_X6_running rfl ⟨rfl, qX6_running⟩ ⟨Nat.le_of_ble_eq_true rfl, Nat.le_of_ble_eq_true rfl⟩ rfl rfl [0, 1] [2, 3] rfl rfl (by decide) (by decide) rfl hl.1 (Nat.le_of_ble_eq_true rfl) ⟨Nat.le_of_ble_eq_true rfl, Nat.le_of_ble_eq_true rfl⟩ dX6_save_55 (oneK (wsN := [(m, .inr (4, mF r (upd (upd (upd g 0 (nI 0)) 8 (nI (regs (S 3)))) 9 (nI (qn (S 3)))))), (r 1, .inl (ca 0, 38, .inl (rwN s))), (r 4, .inl (ca 0, 76, .inl (rwN ((kp2 s z (38 * j) 38))))), (r 5, .inl (ca 3, 2, .inl (rwN (va_up b j 1))))]) [2, 3, 0, 1] (by decide) rfl (st1 := [.int (nI (runC (S 3) (S 1)))]) rfl 0 0 rfl rfl (fun H locs hP hD hS => ?_))
          exact uRetI hx hb hr hlocks hK hP hD hS (Or.inr ⟨j, hj, hqj, rfl, _, (scr_u (by decide) (scr_u (by decide) (scr_u (by decide) (scr_r _)))), rfl⟩) (Nat.le_of_ble_eq_true rfl) (Nat.le_of_ble_eq_true rfl) dX6_save_58
        · refine lv_aload_n hx hb dX6_save_24 rfl (lv_at hl 1 rfl) ?_
          refine va_get (D := D) (ci := 4) (v := .ref (r 4)) (C := RX6) (T := TX6) (N := 34) hx hb hts hinX60 hown hK.1 hP 0 rfl rfl 4 (by decide) (hts (.fieldLink RX6 16 "RenamingGridModel" "slots" "[I") (List.mem_of_getElem? (i := 2) rfl)) (fun _ h9 => h9) rfl dX6_save_25 ?_
          refine lv_bipush (v := nI 38) hx hb dX6_save_28 (by decide) ?_
          refine lv_iload_n hx hb dX6_save_30 rfl (lv_at hl 2 rfl) ?_
          refine n_imul hx hb dX6_save_31 ?_
          refine lv_iload_n hx hb dX6_save_32 rfl (lv_at hl 0 rfl) ?_
          refine n_iadd hx hb dX6_save_33 ?_
          refine lv_aload_n hx hb dX6_save_34 rfl (lv_at hl 1 rfl) ?_
          refine va_get (D := D) (ci := 4) (v := .ref (r 1)) (C := RX6) (T := TX6) (N := 34) hx hb hts hinX60 hown hK.1 hP 0 rfl rfl 1 (by decide) (hts (.fieldLink RX6 7 "RenamingGridModel" "s" "[I") (List.mem_of_getElem? (i := 3) rfl)) (fun _ h9 => h9) rfl dX6_save_35 ?_
          refine lv_iload_n hx hb dX6_save_38 rfl (lv_at hl 0 rfl) ?_
          refine n_iald (D := D) (ca := ca) (v := (nI (s k))) hx hb hK.1 hP 1 (f := (rwN s)) rfl (by omega) (by decide) rfl dX6_save_39 ?_
          refine n_iast (D := D) (ca := ca) hx hb hK.1 hP hD hS 2 (f := (rwN ((kp2 s z (38 * j) k)))) rfl (by omega) (by decide) dX6_save_40 (fun H locs hP hD hS => ?_)
          have hP : va_P D vwCl [(m, .inr (4, mF r (upd g 0 (nI 0)))), (r 1, .inl (ca 0, 38, .inl (rwN s))), (r 4, .inl (ca 0, 76, .inl (upd (rwN ((kp2 s z (38 * j) k))) ((38 * j) + k) (nI (s k))))), (r 5, .inl (ca 3, 2, .inl (rwN b)))] H := hP
          have hD : va_D A [(m, .inr (4, mF r (upd g 0 (nI 0)))), (r 1, .inl (ca 0, 38, .inl (rwN s))), (r 4, .inl (ca 0, 76, .inl (upd (rwN ((kp2 s z (38 * j) k))) ((38 * j) + k) (nI (s k))))), (r 5, .inl (ca 3, 2, .inl (rwN b)))] := hD
          rw [rwN_up] at hP hD
          rw [kp2_s s z (38 * j) k] at hP hD
          refine lv_iinc (v := (nI (k + 1))) (lv' := [(2, .int (nI (k + 1))), (0, .ref m), (1, .int (nI j))]) hx hb dX6_save_41 hl (k := 0) rfl (show nI k + Int32.ofInt 1 = nI (k + 1) from nI_add _ 1) (by decide) rfl (fun ls hl => ?_)
          refine lv_goto (tgt := 18) hx hb dX6_save_44 (by decide) ?_
          exact ih18 (k + 1) (by omega) (by omega) H locs hP hD hS ls (lv_sub hl [0, 1, 2] rfl)
    exact loop18 39 0 (by omega) (by omega) _ _ hP hD hS ls (lv_sub hl [0, 1, 2] rfl)
  · rw [bN_0] at c11
    refine lv_iconst (v := -1) hx hb dX6_save_14 (by decide) ?_
    exact uRetI hx hb hr hlocks hK hP hD hS (Or.inl ⟨inR_2n c11, rfl, _, (scr_u (by decide) (scr_r _)), rfl⟩) (Nat.le_of_ble_eq_true rfl) (Nat.le_of_ble_eq_true rfl) dX6_save_15

set_option maxHeartbeats 4000000 in
set_option maxRecDepth 100000 in
theorem c_X6_restore (l : Launch) (D : va_G) (ca : Nat → ClassId) (m : Nat) (r : Nat → Nat) (g : Nat → Int32) (s z b : Nat → Nat) (V : Nat → Nat → Nat) (hb2 : ∀ j, j < 2 → b j < 2) (hz : ∀ j, j < 2 → b j ≠ 0 → (∀ k, k < 38 → z (38 * j + k) = mS (V j) k) ∧ SOK (V j)) (q : Int32) : UP l D ca yX6_restore wsX6_restore 2 43 0 0 [(m, .inr (4, mF r g)), (r 1, .inl (ca 0, 38, .inl (rwN s))), (r 4, .inl (ca 0, 76, .inl (rwN z))), (r 5, .inl (ca 3, 2, .inl (rwN b)))] [.ref m, .int q] (fun v W1 => (¬ inR 2 q ∧ v = some (.int (-1)) ∧ ∃ g2 : Nat → Int32, scr g g2 ∧ W1 = [(m, .inr (4, mF r g2)), (r 1, .inl (ca 0, 38, .inl (rwN s))), (r 4, .inl (ca 0, 76, .inl (rwN z))), (r 5, .inl (ca 3, 2, .inl (rwN b)))]) ∨ (∃ j, j < 2 ∧ q = nI j ∧ ((b j = 0 ∧ v = some (.int (-2)) ∧ ∃ g2 : Nat → Int32, scr g g2 ∧ W1 = [(m, .inr (4, mF r g2)), (r 1, .inl (ca 0, 38, .inl (rwN s))), (r 4, .inl (ca 0, 76, .inl (rwN z))), (r 5, .inl (ca 3, 2, .inl (rwN b)))]) ∨ (b j ≠ 0 ∧ v = some (.int (nI (runC (V j 3) (V j 1)))) ∧ ∃ g2 : Nat → Int32, scx g g2 0 ∧ W1 = [(m, .inr (4, mF r g2)), (r 1, .inl (ca 0, 38, .inl (rwN ((ldR z (38 * j) s 38))))), (r 4, .inl (ca 0, 76, .inl (rwN z))), (r 5, .inl (ca 3, 2, .inl (rwN b)))])))) := by
  refine UP.start (cc := cX6_restore) (maxL := 3) (ret := (some .int)) (by decide) rfl (Nat.le_of_ble_eq_true rfl) ?_
  intro p_ e_ s_ m_ below_ meth_ c_ A hx hb hml hr hlocks hin hown hts hK hA hP hD hS ls hl
  have hown : s_.vm.findClass RX6 = some m_.cls := hown
  have hl : lv_has ls 3 [(0, .ref m), (1, .int q)] := hl
  have hinX60 : ∀ w ∈ wsX60, w ∈ wsX6_restore := fun w h => List.mem_cons_of_mem _ (List.mem_append_right _ h)
  refine lv_aload_n hx hb dX6_restore_0 rfl (lv_at hl 0 rfl) ?_
  refine lv_iconst (v := nI 0) hx hb dX6_restore_1 (by decide) ?_
  refine va_put (D := D) (ci := 4) (v := .int (nI 0)) (ty := tyX6 0) (C := RX6) (T := TX6) (N := 34) hx hb hts hinX60 tyX6 tyX6_ok nmX6 hown hK.1 hP hD hS 0 rfl rfl 0 (by decide) (hts (.fieldLink RX6 57 "RenamingGridModel" "thrown" "I") (List.mem_of_getElem? (i := 1) rfl)) (fun _ h9 => h9) rfl (tyX6_ok 0 (by decide)) rfl rfl (Nat.le_of_ble_eq_true rfl) dX6_restore_2 (fun H locs hP hD hS => ?_)
  have hP : va_P D vwCl [(m, .inr (4, mF r (upd g 0 (nI 0)))), (r 1, .inl (ca 0, 38, .inl (rwN s))), (r 4, .inl (ca 0, 76, .inl (rwN z))), (r 5, .inl (ca 3, 2, .inl (rwN b)))] H := hP
  have hD : va_D A [(m, .inr (4, mF r (upd g 0 (nI 0)))), (r 1, .inl (ca 0, 38, .inl (rwN s))), (r 4, .inl (ca 0, 76, .inl (rwN z))), (r 5, .inl (ca 3, 2, .inl (rwN b)))] := hD
  refine lv_iload_n hx hb dX6_restore_5 rfl (lv_at hl 1 rfl) ?_
  refine lv_iconst (v := nI 0) hx hb dX6_restore_6 (by decide) ?_
  refine lv_iconst (v := nI 1) hx hb dX6_restore_7 (by decide) ?_
  refine rdS (nL := 3) hx hb hml hown hts hK hP [.int q, .int (nI 0), .int (nI 1)] [] (c_X6_in l D ca q (nI 0) (nI 1)) gX6_restore_X6_in rfl qX6_in ⟨Nat.le_of_ble_eq_true rfl, Nat.le_of_ble_eq_true rfl⟩ [] rfl rfl hl.1 (Nat.le_of_ble_eq_true rfl) ⟨Nat.le_of_ble_eq_true rfl, Nat.le_of_ble_eq_true rfl⟩ dX6_restore_8 ?_
  refine n_if_ne (tgt := 16) hx hb dX6_restore_11 (by decide) (bN_b _) (fun c11 => ?_) (fun c11 => ?_)
  · rw [bN_1] at c11
    obtain ⟨j, hj, hqj⟩ := inR_2 c11
    rw [hqj] at hl
    refine lv_aload_n hx hb dX6_restore_16 rfl (lv_at hl 0 rfl) ?_
    refine va_get (D := D) (ci := 4) (v := .ref (r 5)) (C := RX6) (T := TX6) (N := 34) hx hb hts hinX60 hown hK.1 hP 0 rfl rfl 5 (by decide) (hts (.fieldLink RX6 19 "RenamingGridModel" "isSaved" "[Z") (List.mem_of_getElem? (i := 2) rfl)) (fun _ h9 => h9) rfl dX6_restore_17 ?_
    refine lv_iload_n hx hb dX6_restore_20 rfl (lv_at hl 1 rfl) ?_
    refine n_zald (D := D) (ca := ca) (v := (nI (b j))) hx hb hK.1 hP 3 (f := (rwN b)) rfl (by omega) (by decide) rfl dX6_restore_21 ?_
    refine n_if_ne (tgt := 28) hx hb dX6_restore_22 (by decide) (by have := hb2 j hj; omega) (fun c22 => ?_) (fun c22 => ?_)
    · refine lv_iconst (v := nI 0) hx hb dX6_restore_28 (by decide) ?_
      refine lv_istore_n (lv' := [(2, .int (nI 0)), (0, .ref m), (1, .int (nI j))]) hx hb dX6_restore_29 rfl hl (by decide) rfl (fun ls hl => ?_)
      rw [← ldR_0 z (38 * j) s] at hP hD
      have loop30 : ∀ (N_ : Nat) (k : Nat) (hk : k ≤ 38) (hf : 38 < k + N_), ∀ (H : Heap) (locs : List Loc), va_P D vwCl [(m, .inr (4, mF r (upd g 0 (nI 0)))), (r 1, .inl (ca 0, 38, .inl (rwN ((ldR z (38 * j) s k))))), (r 4, .inl (ca 0, 76, .inl (rwN z))), (r 5, .inl (ca 3, 2, .inl (rwN b)))] H → va_D A [(m, .inr (4, mF r (upd g 0 (nI 0)))), (r 1, .inl (ca 0, 38, .inl (rwN ((ldR z (38 * j) s k))))), (r 4, .inl (ca 0, 76, .inl (rwN z))), (r 5, .inl (ca 3, 2, .inl (rwN b)))] → va_S A s_.heap H locs → ∀ (ls : Array Slot), lv_has ls 3 [(2, .int (nI k)), (0, .ref m), (1, .int (nI j))] → W p_ l e_ ({ frames := 2, cells := 0, slots := 0, locals := 43 }) s_ m_ ([.ref m, .int q]).toArray below_ meth_ c_ H locs 0 0 (MQ below_ (uQA D ca A (fun v W1 => (¬ inR 2 q ∧ v = some (.int (-1)) ∧ ∃ g2 : Nat → Int32, scr g g2 ∧ W1 = [(m, .inr (4, mF r g2)), (r 1, .inl (ca 0, 38, .inl (rwN s))), (r 4, .inl (ca 0, 76, .inl (rwN z))), (r 5, .inl (ca 3, 2, .inl (rwN b)))]) ∨ (∃ j, j < 2 ∧ q = nI j ∧ ((b j = 0 ∧ v = some (.int (-2)) ∧ ∃ g2 : Nat → Int32, scr g g2 ∧ W1 = [(m, .inr (4, mF r g2)), (r 1, .inl (ca 0, 38, .inl (rwN s))), (r 4, .inl (ca 0, 76, .inl (rwN z))), (r 5, .inl (ca 3, 2, .inl (rwN b)))]) ∨ (b j ≠ 0 ∧ v = some (.int (nI (runC (V j 3) (V j 1)))) ∧ ∃ g2 : Nat → Int32, scx g g2 0 ∧ W1 = [(m, .inr (4, mF r g2)), (r 1, .inl (ca 0, 38, .inl (rwN ((ldR z (38 * j) s 38))))), (r 4, .inl (ca 0, 76, .inl (rwN z))), (r 5, .inl (ca 3, 2, .inl (rwN b)))]))))) ([.ref m, .int q]).toArray s_ 0 0 A) (F0 m_ 30 ls []) := by
        intro N_
        induction N_ with
        | zero => intro k hk hf; exfalso; omega
        | succ N_ ih30 =>
          intro k hk hf H locs hP hD hS ls hl
          refine lv_iload_n hx hb dX6_restore_30 rfl (lv_at hl 0 rfl) ?_
          refine lv_bipush (v := nI 38) hx hb dX6_restore_31 (by decide) ?_
          refine n_ic_ge (tgt := 59) hx hb dX6_restore_33 (by decide) (by omega) (by decide) (fun c33 => ?_) (fun c33 => ?_)
          · have hk38 : k = 38 := by omega
            subst hk38
            refine lv_aload_n hx hb dX6_restore_59 rfl (lv_at hl 1 rfl) ?_
            refine lv_iconst (v := nI 0) hx hb dX6_restore_60 (by decide) ?_
            refine va_put (D := D) (ci := 4) (v := .int (nI 0)) (ty := tyX6 3) (C := RX6) (T := TX6) (N := 34) hx hb hts hinX60 tyX6 tyX6_ok nmX6 hown hK.1 hP hD hS 0 rfl rfl 3 (by decide) (hts (.fieldLink RX6 108 "RenamingGridModel" "depth" "I") (List.mem_of_getElem? (i := 5) rfl)) (fun _ h9 => h9) rfl (tyX6_ok 3 (by decide)) rfl rfl (Nat.le_of_ble_eq_true rfl) dX6_restore_61 (fun H locs hP hD hS => ?_)
            have hP : va_P D vwCl [(m, .inr (4, mF r (upd (upd g 0 (nI 0)) 3 (nI 0)))), (r 1, .inl (ca 0, 38, .inl (rwN ((ldR z (38 * j) s 38))))), (r 4, .inl (ca 0, 76, .inl (rwN z))), (r 5, .inl (ca 3, 2, .inl (rwN b)))] H := hP
            have hD : va_D A [(m, .inr (4, mF r (upd (upd g 0 (nI 0)) 3 (nI 0)))), (r 1, .inl (ca 0, 38, .inl (rwN ((ldR z (38 * j) s 38))))), (r 4, .inl (ca 0, 76, .inl (rwN z))), (r 5, .inl (ca 3, 2, .inl (rwN b)))] := hD
            refine lv_aload_n hx hb dX6_restore_64 rfl (lv_at hl 1 rfl) ?_
            refine lv_iconst (v := nI 0) hx hb dX6_restore_65 (by decide) ?_
            refine va_put (D := D) (ci := 4) (v := .int (nI 0)) (ty := tyX6 24) (C := RX6) (T := TX6) (N := 34) hx hb hts hinX60 tyX6 tyX6_ok nmX6 hown hK.1 hP hD hS 0 rfl rfl 24 (by decide) (hts (.fieldLink RX6 111 "RenamingGridModel" "isExplored" "Z") (List.mem_of_getElem? (i := 6) rfl)) (fun _ h9 => h9) rfl (tyX6_ok 24 (by decide)) rfl rfl (Nat.le_of_ble_eq_true rfl) dX6_restore_66 (fun H locs hP hD hS => ?_)
            have hP : va_P D vwCl [(m, .inr (4, mF r (upd (upd (upd g 0 (nI 0)) 3 (nI 0)) 24 (nI 0)))), (r 1, .inl (ca 0, 38, .inl (rwN ((ldR z (38 * j) s 38))))), (r 4, .inl (ca 0, 76, .inl (rwN z))), (r 5, .inl (ca 3, 2, .inl (rwN b)))] H := hP
            have hD : va_D A [(m, .inr (4, mF r (upd (upd (upd g 0 (nI 0)) 3 (nI 0)) 24 (nI 0)))), (r 1, .inl (ca 0, 38, .inl (rwN ((ldR z (38 * j) s 38))))), (r 4, .inl (ca 0, 76, .inl (rwN z))), (r 5, .inl (ca 3, 2, .inl (rwN b)))] := hD
            refine lv_aload_n hx hb dX6_restore_69 rfl (lv_at hl 1 rfl) ?_
            refine uV (nL := 3) (wr := [(r 4, .inl (ca 0, 76, .inl (rwN z))), (r 5, .inl (ca 3, 2, .inl (rwN b)))]) (ci := 4) (q0 := 0) (cq := (RX6, TX6, 34)) hx hb hml hown hts hK hA hP hD hS [] [] (c_X6_running l D ca m r ((upd (upd (upd g 0 (nI 0)) 3 (nI 0)) 24 (nI 0))) (((ldR z (38 * j) s 38))) ((V j)) (ldR_MR (hz j hj c22).1) (hz j hj c22).2) gX6_restore_X6_running rfl ⟨rfl, qX6_running⟩ ⟨Nat.le_of_ble_eq_true rfl, Nat.le_of_ble_eq_true rfl⟩ rfl rfl [0, 1] [2, 3] rfl rfl (by decide) (by decide) rfl hl.1 (Nat.le_of_ble_eq_true rfl) ⟨Nat.le_of_ble_eq_true rfl, Nat.le_of_ble_eq_true rfl⟩ dX6_restore_70 (oneK (wsN := [(m, .inr (4, mF r (upd (upd (upd (upd (upd g 0 (nI 0)) 3 (nI 0)) 8 (nI (regs (((V j)) 3)))) 9 (nI (qn (((V j)) 3)))) 24 (nI 0)))), (r 1, .inl (ca 0, 38, .inl (rwN ((ldR z (38 * j) s 38))))), (r 4, .inl (ca 0, 76, .inl (rwN z))), (r 5, .inl (ca 3, 2, .inl (rwN b)))]) [2, 3, 0, 1] (by decide) rfl (st1 := [.int (nI (runC (((V j)) 3) (((V j)) 1)))]) rfl 0 0 rfl rfl (fun H locs hP hD hS => ?_))
            exact uRetI hx hb hr hlocks hK hP hD hS (Or.inr ⟨j, hj, hqj, Or.inr ⟨c22, rfl, (upd (upd (upd (upd (upd g 0 (nI 0)) 3 (nI 0)) 8 (nI (regs (((V j)) 3)))) 9 (nI (qn (((V j)) 3)))) 24 (nI 0)), ⟨rfl, rfl, rfl⟩, rfl⟩⟩) (Nat.le_of_ble_eq_true rfl) (Nat.le_of_ble_eq_true rfl) dX6_restore_73
          · refine lv_aload_n hx hb dX6_restore_36 rfl (lv_at hl 1 rfl) ?_
            refine va_get (D := D) (ci := 4) (v := .ref (r 1)) (C := RX6) (T := TX6) (N := 34) hx hb hts hinX60 hown hK.1 hP 0 rfl rfl 1 (by decide) (hts (.fieldLink RX6 7 "RenamingGridModel" "s" "[I") (List.mem_of_getElem? (i := 3) rfl)) (fun _ h9 => h9) rfl dX6_restore_37 ?_
            refine lv_iload_n hx hb dX6_restore_40 rfl (lv_at hl 0 rfl) ?_
            refine lv_aload_n hx hb dX6_restore_41 rfl (lv_at hl 1 rfl) ?_
            refine va_get (D := D) (ci := 4) (v := .ref (r 4)) (C := RX6) (T := TX6) (N := 34) hx hb hts hinX60 hown hK.1 hP 0 rfl rfl 4 (by decide) (hts (.fieldLink RX6 16 "RenamingGridModel" "slots" "[I") (List.mem_of_getElem? (i := 4) rfl)) (fun _ h9 => h9) rfl dX6_restore_42 ?_
            refine lv_bipush (v := nI 38) hx hb dX6_restore_45 (by decide) ?_
            refine lv_iload_n hx hb dX6_restore_47 rfl (lv_at hl 2 rfl) ?_
            refine n_imul hx hb dX6_restore_48 ?_
            refine lv_iload_n hx hb dX6_restore_49 rfl (lv_at hl 0 rfl) ?_
            refine n_iadd hx hb dX6_restore_50 ?_
            refine n_iald (D := D) (ca := ca) (v := (nI (z ((38 * j) + k)))) hx hb hK.1 hP 2 (f := (rwN z)) rfl (by omega) (by decide) rfl dX6_restore_51 ?_
            refine n_iast (D := D) (ca := ca) hx hb hK.1 hP hD hS 1 (f := (rwN ((ldR z (38 * j) s k)))) rfl (by omega) (by decide) dX6_restore_52 (fun H locs hP hD hS => ?_)
            have hP : va_P D vwCl [(m, .inr (4, mF r (upd g 0 (nI 0)))), (r 1, .inl (ca 0, 38, .inl (upd (rwN ((ldR z (38 * j) s k))) k (nI (z ((38 * j) + k)))))), (r 4, .inl (ca 0, 76, .inl (rwN z))), (r 5, .inl (ca 3, 2, .inl (rwN b)))] H := hP
            have hD : va_D A [(m, .inr (4, mF r (upd g 0 (nI 0)))), (r 1, .inl (ca 0, 38, .inl (upd (rwN ((ldR z (38 * j) s k))) k (nI (z ((38 * j) + k)))))), (r 4, .inl (ca 0, 76, .inl (rwN z))), (r 5, .inl (ca 3, 2, .inl (rwN b)))] := hD
            rw [rwN_up] at hP hD
            rw [ldR_s z (38 * j) s k] at hP hD
            refine lv_iinc (v := (nI (k + 1))) (lv' := [(2, .int (nI (k + 1))), (0, .ref m), (1, .int (nI j))]) hx hb dX6_restore_53 hl (k := 0) rfl (show nI k + Int32.ofInt 1 = nI (k + 1) from nI_add _ 1) (by decide) rfl (fun ls hl => ?_)
            refine lv_goto (tgt := 30) hx hb dX6_restore_56 (by decide) ?_
            exact ih30 (k + 1) (by omega) (by omega) H locs hP hD hS ls (lv_sub hl [0, 1, 2] rfl)
      exact loop30 39 0 (by omega) (by omega) _ _ hP hD hS ls (lv_sub hl [0, 1, 2] rfl)
    · refine lv_bipush (v := -2) hx hb dX6_restore_25 (by decide) ?_
      exact uRetI hx hb hr hlocks hK hP hD hS (Or.inr ⟨j, hj, hqj, Or.inl ⟨c22, rfl, _, (scr_u (by decide) (scr_r _)), rfl⟩⟩) (Nat.le_of_ble_eq_true rfl) (Nat.le_of_ble_eq_true rfl) dX6_restore_27
  · rw [bN_0] at c11
    refine lv_iconst (v := -1) hx hb dX6_restore_14 (by decide) ?_
    exact uRetI hx hb hr hlocks hK hP hD hS (Or.inl ⟨inR_2n c11, rfl, _, (scr_u (by decide) (scr_r _)), rfl⟩) (Nat.le_of_ble_eq_true rfl) (Nat.le_of_ble_eq_true rfl) dX6_restore_15

