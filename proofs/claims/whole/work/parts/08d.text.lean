/-! ===== RenamingGrid: the text, slots, the exploration ===== -/
abbrev chrOK (q : Int32) : Prop := ¬ q < 0 ∧ q ≤ nI 255
def ansApp (L : Nat) (q : Int32) : Int32 := if chrOK q then (if 80 ≤ L then -3 else nI (L + 1)) else -1

set_option maxHeartbeats 4000000 in
set_option maxRecDepth 100000 in
theorem c_X5_append (l : Launch) (D : va_G) (ca : Nat → ClassId) (g pr sc sa sl sch : Nat) (nS : Nat) (vW vT : Value) (tx ip ic L c : Nat) (T : Nat → Nat) (q : Int32) (hL : L ≤ 80) : UP l D ca yX5_append wsX5_append 2 41 0 0 [(g, .inr (3, [.ref pr, .ref sc, .ref sa, .int (nI nS), .ref sl, .ref sch, vW, vT])), (sch, .inr (1, [.ref tx, .int (nI L), .ref ip, .ref ic, .int (nI c)])), (tx, .inl (ca 2, 80, .inl (rwN T)))] [.ref g, .int q] (fun v W1 => v = some (.int (ansApp L q)) ∧ ((( chrOK q ∧ L < 80) ∧ W1 = [(g, .inr (3, [.ref pr, .ref sc, .ref sa, .int (nI nS), .ref sl, .ref sch, vW, vT])), (sch, .inr (1, [.ref tx, .int (nI (L + 1)), .ref ip, .ref ic, .int (nI c)])), (tx, .inl (ca 2, 80, .inl (rwN (va_up T L q.toNatClampNeg))))]) ∨ (¬ (chrOK q ∧ L < 80) ∧ W1 = [(g, .inr (3, [.ref pr, .ref sc, .ref sa, .int (nI nS), .ref sl, .ref sch, vW, vT])), (sch, .inr (1, [.ref tx, .int (nI L), .ref ip, .ref ic, .int (nI c)])), (tx, .inl (ca 2, 80, .inl (rwN T)))]))) := by
  refine UP.start (cc := cX5_append) (maxL := 2) (ret := (some .int)) (by decide) rfl (Nat.le_of_ble_eq_true rfl) ?_
  intro p_ e_ s_ m_ below_ meth_ c_ A hx hb hml hr hlocks hin hown hts hK hA hP hD hS ls hl
  have hown : s_.vm.findClass RX5 = some m_.cls := hown
  have hl : lv_has ls 2 [(0, .ref g), (1, .int q)] := hl
  have hinX50 : ∀ w ∈ wsX50, w ∈ wsX5_append := fun w h => List.mem_cons_of_mem _ (List.mem_append_left _ (List.mem_append_right _ h))
  have hinX30 : ∀ w ∈ wsX30, w ∈ wsX5_append := fun w h => List.mem_cons_of_mem _ (List.mem_append_right _ h)
  refine lv_iload_n hx hb dX5_append_0 rfl (lv_at hl 1 rfl) ?_
  refine lv_if_lt (tgt := 11) hx hb dX5_append_1 (by decide) (fun c1 => ?_) (fun c1 => ?_)
  · refine lv_iconst (v := -1) hx hb dX5_append_11 (by decide) ?_
    have hno : ¬ chrOK q := fun z => z.1 c1
    exact uRetI hx hb hr hlocks hK hP hD hS ⟨by unfold ansApp; rw [if_neg hno], Or.inr ⟨fun z => hno z.1, rfl⟩⟩ (Nat.le_of_ble_eq_true rfl) (Nat.le_of_ble_eq_true rfl) dX5_append_12
  · refine lv_iload_n hx hb dX5_append_4 rfl (lv_at hl 1 rfl) ?_
    refine lv_sipush (v := nI 255) hx hb dX5_append_5 (by decide) ?_
    refine lv_icmp_le (tgt := 13) hx hb dX5_append_8 (by decide) (fun c8 => ?_) (fun c8 => ?_)
    · refine lv_aload_n hx hb dX5_append_13 rfl (lv_at hl 0 rfl) ?_
      refine va_get (D := D) (ci := 3) (v := .ref sch) (C := RX5) (T := TX5) (N := 8) hx hb hts hinX50 hown hK.1 hP 0 rfl rfl 5 (by decide) (hts (.fieldLink RX5 33 "RenamingGrid" "schedule" "LRenamingGrid$Schedule;") (List.mem_of_getElem? (i := 1) rfl)) (fun _ h9 => h9) rfl dX5_append_14 ?_
      refine rdV (nL := 2) (ci := 1) (q0 := 1) (cq := (RX3, TX3, 5)) hx hb hml hown hts hK hP [] [] (c_X3_isFull l D ca sch tx ip ic L c T (by omega)) gX5_append_X3_isFull rfl ⟨rfl, qX3_isFull⟩ ⟨Nat.le_of_ble_eq_true rfl, Nat.le_of_ble_eq_true rfl⟩ rfl rfl [1, 2] rfl rfl hl.1 (Nat.le_of_ble_eq_true rfl) ⟨Nat.le_of_ble_eq_true rfl, Nat.le_of_ble_eq_true rfl⟩ dX5_append_17 ?_
      refine n_if_eq (tgt := 26) hx hb dX5_append_20 (by decide) (bN_b _) (fun c20 => ?_) (fun c20 => ?_)
      · rw [bN_0] at c20
        refine lv_aload_n hx hb dX5_append_26 rfl (lv_at hl 0 rfl) ?_
        refine va_get (D := D) (ci := 3) (v := .ref sch) (C := RX5) (T := TX5) (N := 8) hx hb hts hinX50 hown hK.1 hP 0 rfl rfl 5 (by decide) (hts (.fieldLink RX5 33 "RenamingGrid" "schedule" "LRenamingGrid$Schedule;") (List.mem_of_getElem? (i := 1) rfl)) (fun _ h9 => h9) rfl dX5_append_27 ?_
        have hyes : chrOK q := ⟨c1, c8⟩
        obtain ⟨j, hj1, hj, rfl⟩ := rgN (lo := 0) (hi := 255) c1 (by rw [Int32.not_lt]; exact c8) (by decide) (by decide)
        refine lv_iload_n hx hb dX5_append_30 rfl (lv_at hl 1 rfl) ?_
        refine lv_i2c (v := (nI j)) hx hb dX5_append_31 (by rw [pk_char]; congr 1; have e : (nI j).toBitVec.toNat = j := pk_tn (by omega); rw [e]; omega) ?_
        refine uV (nL := 2) (wr := [(g, .inr (3, [.ref pr, .ref sc, .ref sa, .int (nI nS), .ref sl, .ref sch, vW, vT]))]) (ci := 1) (q0 := 1) (cq := (RX3, TX3, 5)) hx hb hml hown hts hK hA hP hD hS [.int (nI j)] [] (c_X3_add l D ca sch tx ip ic L c T j (by omega) (by omega)) gX5_append_X3_add rfl ⟨rfl, qX3_add⟩ ⟨Nat.le_of_ble_eq_true rfl, Nat.le_of_ble_eq_true rfl⟩ rfl rfl [1, 2] [0] rfl rfl (by decide) (by decide) rfl hl.1 (Nat.le_of_ble_eq_true rfl) ⟨Nat.le_of_ble_eq_true rfl, Nat.le_of_ble_eq_true rfl⟩ dX5_append_32 (oneK (wsN := [(g, .inr (3, [.ref pr, .ref sc, .ref sa, .int (nI nS), .ref sl, .ref sch, vW, vT])), (sch, .inr (1, [.ref tx, .int (nI (L + 1)), .ref ip, .ref ic, .int (nI c)])), (tx, .inl (ca 2, 80, .inl (rwN (va_up T L j))))]) [0, 1, 2] (by decide) rfl (st1 := [.int (nI (L + 1))]) rfl 0 0 rfl rfl (fun H locs hP hD hS => ?_))
        exact uRetI hx hb hr hlocks hK hP hD hS ⟨by unfold ansApp; rw [if_pos hyes, if_neg c20], Or.inl ⟨⟨hyes, by omega⟩, by rw [nI_clamp (by omega)]⟩⟩ (Nat.le_of_ble_eq_true rfl) (Nat.le_of_ble_eq_true rfl) dX5_append_35
      · rw [bN_1] at c20
        refine lv_bipush (v := -3) hx hb dX5_append_23 (by decide) ?_
        exact uRetI hx hb hr hlocks hK hP hD hS ⟨by unfold ansApp; rw [if_pos ⟨c1, c8⟩, if_pos c20], Or.inr ⟨fun z => by have := z.2; omega, rfl⟩⟩ (Nat.le_of_ble_eq_true rfl) (Nat.le_of_ble_eq_true rfl) dX5_append_25
    · refine lv_iconst (v := -1) hx hb dX5_append_11 (by decide) ?_
      have hno : ¬ chrOK q := fun z => c8 z.2
      exact uRetI hx hb hr hlocks hK hP hD hS ⟨by unfold ansApp; rw [if_neg hno], Or.inr ⟨fun z => hno z.1, rfl⟩⟩ (Nat.le_of_ble_eq_true rfl) (Nat.le_of_ble_eq_true rfl) dX5_append_12

set_option maxHeartbeats 4000000 in
set_option maxRecDepth 100000 in
theorem c_X5_clearText (l : Launch) (D : va_G) (ca : Nat → ClassId) (g pr sc sa sl sch : Nat) (nS : Nat) (vW vT : Value) (tx ip ic L c : Nat) : UP l D ca yX5_clearText wsX5_clearText 1 21 0 0 [(g, .inr (3, [.ref pr, .ref sc, .ref sa, .int (nI nS), .ref sl, .ref sch, vW, vT])), (sch, .inr (1, [.ref tx, .int (nI L), .ref ip, .ref ic, .int (nI c)]))] [.ref g] (one (some (.int (nI L))) [(g, .inr (3, [.ref pr, .ref sc, .ref sa, .int (nI nS), .ref sl, .ref sch, vW, vT])), (sch, .inr (1, [.ref tx, .int (nI 0), .ref ip, .ref ic, .int (nI c)]))]) := by
  refine UP.start (cc := cX5_clearText) (maxL := 1) (ret := (some .int)) (by decide) rfl (Nat.le_of_ble_eq_true rfl) ?_
  intro p_ e_ s_ m_ below_ meth_ c_ A hx hb hml hr hlocks hin hown hts hK hA hP hD hS ls hl
  have hown : s_.vm.findClass RX5 = some m_.cls := hown
  have hl : lv_has ls 1 [(0, .ref g)] := hl
  have hinX50 : ∀ w ∈ wsX50, w ∈ wsX5_clearText := fun w h => List.mem_cons_of_mem _ (List.mem_append_left _ (List.mem_append_right _ h))
  have hinX30 : ∀ w ∈ wsX30, w ∈ wsX5_clearText := fun w h => List.mem_cons_of_mem _ (List.mem_append_right _ h)
  refine lv_aload_n hx hb dX5_clearText_0 rfl (lv_at hl 0 rfl) ?_
  refine va_get (D := D) (ci := 3) (v := .ref sch) (C := RX5) (T := TX5) (N := 8) hx hb hts hinX50 hown hK.1 hP 0 rfl rfl 5 (by decide) (hts (.fieldLink RX5 33 "RenamingGrid" "schedule" "LRenamingGrid$Schedule;") (List.mem_of_getElem? (i := 1) rfl)) (fun _ h9 => h9) rfl dX5_clearText_1 ?_
  refine uV (nL := 1) (wr := [(g, .inr (3, [.ref pr, .ref sc, .ref sa, .int (nI nS), .ref sl, .ref sch, vW, vT]))]) (ci := 1) (q0 := 1) (cq := (RX3, TX3, 5)) hx hb hml hown hts hK hA hP hD hS [] [] (c_X3_clear l D ca sch tx ip ic L c) gX5_clearText_X3_clear rfl ⟨rfl, qX3_clear⟩ ⟨Nat.le_of_ble_eq_true rfl, Nat.le_of_ble_eq_true rfl⟩ rfl rfl [1] [0] rfl rfl (by decide) (by decide) rfl hl.1 (Nat.le_of_ble_eq_true rfl) ⟨Nat.le_of_ble_eq_true rfl, Nat.le_of_ble_eq_true rfl⟩ dX5_clearText_4 (oneK (wsN := [(g, .inr (3, [.ref pr, .ref sc, .ref sa, .int (nI nS), .ref sl, .ref sch, vW, vT])), (sch, .inr (1, [.ref tx, .int (nI 0), .ref ip, .ref ic, .int (nI c)]))]) [0, 1] (by decide) rfl (st1 := [.int (nI L)]) rfl 0 0 rfl rfl (fun H locs hP hD hS => ?_))
  exact uRetI hx hb hr hlocks hK hP hD hS ⟨rfl, rfl⟩ (Nat.le_of_ble_eq_true rfl) (Nat.le_of_ble_eq_true rfl) dX5_clearText_7

theorem it_aft {T : Nat → Nat} {L n E j : Nat} {X : PS} (h : ∀ i, i < X.1 → X.2.1 i < n ∧ X.2.2 i ≤ 30) : ∀ i, i < (aft T L n E j X).2.1 → (aft T L n E j X).2.2.1 i < n ∧ (aft T L n E j X).2.2.2 i ≤ 30 := by
  unfold aft
  by_cases e0 : E = 0
  · rw [if_pos e0]
    split
    · rename_i c
      intro i hi
      show va_up _ _ _ i < n ∧ va_up _ _ _ i ≤ 30
      unfold va_up
      by_cases q : i = X.1
      · rw [if_pos q, if_pos q]; omega
      · rw [if_neg q, if_neg q]; exact h i (by have : i < X.1 + 1 := hi; omega)
    · exact h
  · rw [if_neg e0]
    by_cases e1 : E = 1
    · rw [if_pos e1]
      split
      · exact h
      · split <;> exact h
    · rw [if_neg e1]
      by_cases e2 : E = 2
      · rw [if_pos e2]
        split
        · rename_i c
          intro i hi
          show X.2.1 i < n ∧ va_up _ _ _ i ≤ 30
          refine ⟨(h i hi).1, ?_⟩
          unfold va_up
          by_cases q : i = X.1 - 1
          · rw [if_pos q]; omega
          · rw [if_neg q]; exact (h i hi).2
        · exact h
      · rw [if_neg e2]
        split <;> exact h
theorem it_rd {T : Nat → Nat} {L n : Nat} : ∀ {d j E : Nat} {X : PS}, (∀ i, i < X.1 → X.2.1 i < n ∧ X.2.2 i ≤ 30) → ∀ i, i < (rdF T L n d j E X).2.1 → (rdF T L n d j E X).2.2.1 i < n ∧ (rdF T L n d j E X).2.2.2 i ≤ 30
  | 0, _, _, _, h => h
  | d + 1, j, E, X, h => by
    unfold rdF
    split
    · split
      · exact it_aft h
      · exact it_rd (it_aft h)
    · exact it_rd h
theorem aft_4 {T : Nat → Nat} {L n E j : Nat} {X : PS} (h : (aft T L n E j X).1 = 4) : (aft T L n E j X).2 = X := by
  unfold aft at h ⊢
  by_cases e0 : E = 0
  · rw [if_pos e0] at h ⊢
    split at h
    · exact absurd h (by show ¬ 1 = 4; decide)
    · rw [if_neg (by assumption)]
  · rw [if_neg e0] at h ⊢
    by_cases e1 : E = 1
    · rw [if_pos e1] at h ⊢
      split at h
      · exact absurd h (by show ¬ 2 = 4; decide)
      · rw [if_neg (by assumption)]
        split at h
        · exact absurd h (by show ¬ 0 = 4; decide)
        · rw [if_neg (by assumption)]
    · rw [if_neg e1] at h ⊢
      by_cases e2 : E = 2
      · rw [if_pos e2] at h ⊢
        split at h
        · exact absurd h (by show ¬ 3 = 4; decide)
        · rw [if_neg (by assumption)]
      · rw [if_neg e2] at h ⊢
        split at h
        · exact absurd h (by show ¬ 0 = 4; decide)
        · rw [if_neg (by assumption)]
theorem c_le {E j : Nat} {X : PS} (h : pOKs E j X) : 2 * X.1 ≤ j + 1 := by
  by_cases e : E = 0
  · have := h.2.1 e; omega
  · exact (h.2.2 e).1
theorem rd_c {T : Nat → Nat} {L n : Nat} : ∀ {d j E : Nat} {X : PS}, pOKs E j X → 2 * (rdF T L n d j E X).2.1 ≤ j + d + 1
  | 0, _, _, _, h => c_le h
  | d + 1, j, E, X, h => by
    unfold rdF
    split
    · split
      · rename_i c
        rw [aft_4 c]
        have := c_le h
        show 2 * X.1 ≤ _
        omega
      · rename_i c
        have := rd_c (d := d) (T := T) (L := L) (n := n) (pOKs_aft h c)
        omega
    · have := rd_c (d := d) (T := T) (L := L) (n := n) (pOKs_w (k := j + 1) h (by omega))
      omega
theorem rd_pos {T : Nat → Nat} {L n : Nat} : ∀ {d j E : Nat} {X : PS}, j + d = L → (rdF T L n d j E X).1 ≤ L + 1
  | 0, j, E, X, h => by
    show (if E = 0 ∧ 0 < X.1 then 0 else L + 1) ≤ L + 1
    split
    · exact Nat.zero_le _
    · exact Nat.le_refl _
  | d + 1, j, E, X, h => by
    unfold rdF
    split
    · split
      · show j + 1 ≤ _; omega
      · exact rd_pos (by omega)
    · exact rd_pos (by omega)
theorem p0 (P K : Nat → Nat) : pOKs 0 0 (0, P, K) := ⟨by decide, fun _ => by show 2 * 0 ≤ 0; decide, fun z => absurd rfl z⟩
theorem zI_m1 {x : Nat} (hx : x < 2 ^ 30) : zI x = -1 ↔ x = 0 := by
  constructor
  · intro h
    rcases Nat.eq_zero_or_pos x with e | e
    · exact e
    · exfalso
      have := (zI_ge (by omega)).mpr (show x ≠ 0 by omega)
      rw [h] at this
      exact absurd this (by decide)
  · intro h; rw [h]; rfl

set_option maxHeartbeats 4000000 in
set_option maxRecDepth 100000 in
theorem c_X5_runText (l : Launch) (D : va_G) (ca : Nat → ClassId) (g pr sc sa sl sch : Nat) (nS : Nat) (vW vT : Value) (sv : Nat → Nat) (U : Nat → Nat → Nat) (S : Nat → Nat) (hnS : nS ≤ 8) (hok : SOK S) (tx ip ic L c : Nat) (T : Nat → Nat) (P K : Nat → Nat) (hL : L ≤ 80) (hT : ∀ i, T i ≤ 255) : UP l D ca yX5_runText wsX5_runText 6 155 0 0 [(g, .inr (3, [.ref pr, .ref sc, .ref sa, .int (nI nS), .ref sl, .ref sch, vW, vT])), (pr, .inr (2, cS S)), (sa, .inl (ca 4, 8, .inr (.inr (.inr (.inr (qo [some (sv 0), some (sv 1), some (sv 2), some (sv 3), some (sv 4), some (sv 5), some (sv 6), some (sv 7)])))))), (sv 0, .inr (2, cS ((U 0)))), (sv 1, .inr (2, cS ((U 1)))), (sv 2, .inr (2, cS ((U 2)))), (sv 3, .inr (2, cS ((U 3)))), (sv 4, .inr (2, cS ((U 4)))), (sv 5, .inr (2, cS ((U 5)))), (sv 6, .inr (2, cS ((U 6)))), (sv 7, .inr (2, cS ((U 7)))), (sch, .inr (1, [.ref tx, .int (nI L), .ref ip, .ref ic, .int (nI c)])), (tx, .inl (ca 2, 80, .inl (rwN T))), (ip, .inl (ca 0, 40, .inl (rwN P))), (ic, .inl (ca 0, 40, .inl (rwN K)))] [.ref g] (fun v W1 => ((rdF T L (S 1) L 0 0 (0, P, K)).1 = 0 → v = some (.int (nI (exN ((rdF T L (S 1) L 0 0 (0, P, K)).2.1, (rdF T L (S 1) L 0 0 (0, P, K)).2.2.1, (rdF T L (S 1) L 0 0 (0, P, K)).2.2.2) (rdF T L (S 1) L 0 0 (0, P, K)).2.1 0 S))) ∧ ∃ (sv2 : Nat → Nat) (U2 : Nat → Nat → Nat) (n2 c2 : Nat) (P2 K2 : Nat → Nat), W1 = pcW ca g pr sc sa sl sch sv2 (exS ((rdF T L (S 1) L 0 0 (0, P, K)).2.1, (rdF T L (S 1) L 0 0 (0, P, K)).2.2.1, (rdF T L (S 1) L 0 0 (0, P, K)).2.2.2) (rdF T L (S 1) L 0 0 (0, P, K)).2.1 0 S) U2 n2 vW .null ++ [(sch, .inr (1, [.ref tx, .int (nI 0), .ref ip, .ref ic, .int (nI c2)])), (tx, .inl (ca 2, 80, .inl (rwN T))), (ip, .inl (ca 0, 40, .inl (rwN P2))), (ic, .inl (ca 0, 40, .inl (rwN K2)))] ∧ kpR nS U S n2 U2) ∧ (¬ (rdF T L (S 1) L 0 0 (0, P, K)).1 = 0 → v = some (.int (-10 - nI ((rdF T L (S 1) L 0 0 (0, P, K)).1 - 1))) ∧ ∃ (c2 : Nat) (P2 K2 : Nat → Nat), W1 = pcW ca g pr sc sa sl sch sv S U nS vW vT ++ [(sch, .inr (1, [.ref tx, .int (nI L), .ref ip, .ref ic, .int (nI c2)])), (tx, .inl (ca 2, 80, .inl (rwN T))), (ip, .inl (ca 0, 40, .inl (rwN P2))), (ic, .inl (ca 0, 40, .inl (rwN K2)))])) := by
  refine UP.start (cc := cX5_runText) (maxL := 3) (ret := (some .int)) (by decide) rfl (Nat.le_of_ble_eq_true rfl) ?_
  intro p_ e_ s_ m_ below_ meth_ c_ A hx hb hml hr hlocks hin hown hts hK hA hP hD hS ls hl
  have hown : s_.vm.findClass RX5 = some m_.cls := hown
  have hl : lv_has ls 3 [(0, .ref g)] := hl
  have hinX50 : ∀ w ∈ wsX50, w ∈ wsX5_runText := fun w h => List.mem_cons_of_mem _ (List.mem_append_left _ (List.mem_append_left _ (List.mem_append_right _ h)))
  have hinX40 : ∀ w ∈ wsX40, w ∈ wsX5_runText := fun w h => List.mem_cons_of_mem _ (List.mem_append_left _ (List.mem_append_right _ h))
  have hinX30 : ∀ w ∈ wsX30, w ∈ wsX5_runText := fun w h => List.mem_cons_of_mem _ (List.mem_append_right _ h)
  have hC := hok.2.2.2.1
  have hz := hok.1
  have hn3 := hok.2.1
  have hg := hok.2.2.1
  have hnm := nmS_le hok
  have hct := hok.2.2.2.2.2.2.1
  refine lv_aload_n hx hb dX5_runText_0 rfl (lv_at hl 0 rfl) ?_
  refine va_get (D := D) (ci := 3) (v := .ref sch) (C := RX5) (T := TX5) (N := 8) hx hb hts hinX50 hown hK.1 hP 0 rfl rfl 5 (by decide) (hts (.fieldLink RX5 33 "RenamingGrid" "schedule" "LRenamingGrid$Schedule;") (List.mem_of_getElem? (i := 1) rfl)) (fun _ h9 => h9) rfl dX5_runText_1 ?_
  refine lv_aload_n hx hb dX5_runText_4 rfl (lv_at hl 0 rfl) ?_
  refine va_get (D := D) (ci := 3) (v := .ref pr) (C := RX5) (T := TX5) (N := 8) hx hb hts hinX50 hown hK.1 hP 0 rfl rfl 0 (by decide) (hts (.fieldLink RX5 10 "RenamingGrid" "present" "LRenamingGrid$State;") (List.mem_of_getElem? (i := 2) rfl)) (fun _ h9 => h9) rfl dX5_runText_5 ?_
  refine va_getN (D := D) (ci := 2) (v := .int (nI (S 1))) (C := RX4) (T := TX4) (N := 8) hx hb hts hinX40 hown hK.1 hP 1 rfl rfl 1 (by decide) (nw2 hK) (fun _ h9 => h9) rfl dX5_runText_8 ?_
  refine uV (nL := 3) (wr := [(g, .inr (3, [.ref pr, .ref sc, .ref sa, .int (nI nS), .ref sl, .ref sch, vW, vT])), (pr, .inr (2, cS S)), (sa, .inl (ca 4, 8, .inr (.inr (.inr (.inr (qo [some (sv 0), some (sv 1), some (sv 2), some (sv 3), some (sv 4), some (sv 5), some (sv 6), some (sv 7)])))))), (sv 0, .inr (2, cS ((U 0)))), (sv 1, .inr (2, cS ((U 1)))), (sv 2, .inr (2, cS ((U 2)))), (sv 3, .inr (2, cS ((U 3)))), (sv 4, .inr (2, cS ((U 4)))), (sv 5, .inr (2, cS ((U 5)))), (sv 6, .inr (2, cS ((U 6)))), (sv 7, .inr (2, cS ((U 7))))]) (ci := 1) (q0 := 11) (cq := (RX3, TX3, 5)) hx hb hml hown hts hK hA hP hD hS [.int (nI (S 1))] [] (c_X3_read l D ca sch tx ip ic L c T P K (S 1) hL hT (by omega)) gX5_runText_X3_read rfl ⟨rfl, qX3_read⟩ ⟨Nat.le_of_ble_eq_true rfl, Nat.le_of_ble_eq_true rfl⟩ rfl rfl [11, 12, 13, 14] [0, 1, 2, 3, 4, 5, 6, 7, 8, 9, 10] rfl rfl (by decide) (by decide) rfl hl.1 (Nat.le_of_ble_eq_true rfl) ⟨Nat.le_of_ble_eq_true rfl, Nat.le_of_ble_eq_true rfl⟩ dX5_runText_11 (oneK (wsN := [(g, .inr (3, [.ref pr, .ref sc, .ref sa, .int (nI nS), .ref sl, .ref sch, vW, vT])), (pr, .inr (2, cS S)), (sa, .inl (ca 4, 8, .inr (.inr (.inr (.inr (qo [some (sv 0), some (sv 1), some (sv 2), some (sv 3), some (sv 4), some (sv 5), some (sv 6), some (sv 7)])))))), (sv 0, .inr (2, cS ((U 0)))), (sv 1, .inr (2, cS ((U 1)))), (sv 2, .inr (2, cS ((U 2)))), (sv 3, .inr (2, cS ((U 3)))), (sv 4, .inr (2, cS ((U 4)))), (sv 5, .inr (2, cS ((U 5)))), (sv 6, .inr (2, cS ((U 6)))), (sv 7, .inr (2, cS ((U 7)))), (sch, .inr (1, [.ref tx, .int (nI L), .ref ip, .ref ic, .int (nI ((rdF T L (S 1) L 0 0 (0, P, K)).2.1))])), (tx, .inl (ca 2, 80, .inl (rwN T))), (ip, .inl (ca 0, 40, .inl (rwN ((rdF T L (S 1) L 0 0 (0, P, K)).2.2.1)))), (ic, .inl (ca 0, 40, .inl (rwN ((rdF T L (S 1) L 0 0 (0, P, K)).2.2.2))))]) [0, 1, 2, 3, 4, 5, 6, 7, 8, 9, 10, 11, 12, 13, 14] (by decide) rfl (st1 := [.int ((zI (rdF T L (S 1) L 0 0 (0, P, K)).1))]) rfl 0 0 rfl rfl (fun H locs hP hD hS => ?_))
  refine lv_istore_n (lv' := [(1, .int ((zI (rdF T L (S 1) L 0 0 (0, P, K)).1))), (0, .ref g)]) hx hb dX5_runText_14 rfl hl (by decide) rfl (fun ls hl => ?_)
  have hrp : (rdF T L (S 1) L 0 0 (0, P, K)).1 ≤ L + 1 := rd_pos (by omega)
  have hrc : 2 * (rdF T L (S 1) L 0 0 (0, P, K)).2.1 ≤ L + 1 := by have := rd_c (d := L) (T := T) (L := L) (n := S 1) (p0 P K); omega
  have hri : ∀ i, i < (rdF T L (S 1) L 0 0 (0, P, K)).2.1 → (rdF T L (S 1) L 0 0 (0, P, K)).2.2.1 i < S 1 ∧ (rdF T L (S 1) L 0 0 (0, P, K)).2.2.2 i ≤ 30 := it_rd (fun i hi => absurd hi (Nat.not_lt_zero i))
  refine lv_iload_n hx hb dX5_runText_15 rfl (lv_at hl 0 rfl) ?_
  refine lv_iconst (v := -1) hx hb dX5_runText_16 (by decide) ?_
  refine lv_icmp_eq (tgt := 25) hx hb dX5_runText_17 (by decide) (fun c17 => ?_) (fun c17 => ?_)
  · rw [zI_m1 (by omega)] at c17
    refine lv_aload_n hx hb dX5_runText_25 rfl (lv_at hl 1 rfl) ?_
    refine uV (nL := 3) (wr := [(sch, .inr (1, [.ref tx, .int (nI L), .ref ip, .ref ic, .int (nI ((rdF T L (S 1) L 0 0 (0, P, K)).2.1))])), (tx, .inl (ca 2, 80, .inl (rwN T))), (ip, .inl (ca 0, 40, .inl (rwN ((rdF T L (S 1) L 0 0 (0, P, K)).2.2.1)))), (ic, .inl (ca 0, 40, .inl (rwN ((rdF T L (S 1) L 0 0 (0, P, K)).2.2.2))))]) (ci := 3) (q0 := 0) (cq := (RX5, TX5, 8)) hx hb hml hown hts hK hA hP hD hS [] [] (c_X5_prepareChange l D ca g pr sc sa sl sch nS vW vT sv U S hnS) gX5_runText_X5_prepareChange rfl ⟨rfl, qX5_prepareChange⟩ ⟨Nat.le_of_ble_eq_true rfl, Nat.le_of_ble_eq_true rfl⟩ rfl rfl [0, 1, 2, 3, 4, 5, 6, 7, 8, 9, 10] [11, 12, 13, 14] rfl rfl (by decide) (by decide) rfl hl.1 (Nat.le_of_ble_eq_true rfl) ⟨Nat.le_of_ble_eq_true rfl, Nat.le_of_ble_eq_true rfl⟩ dX5_runText_26 (fun v1 W1 H locs hO hP hD hS => ?_)
    obtain ⟨rfl, sv2, U2, n2, rfl, hkp⟩ := hO
    have hP : va_P D vwCl [(g, .inr (3, [.ref pr, .ref sc, .ref sa, .int (nI n2), .ref sl, .ref sch, vW, .null])), (pr, .inr (2, cS S)), (sa, .inl (ca 4, 8, .inr (.inr (.inr (.inr (qo [some (sv2 0), some (sv2 1), some (sv2 2), some (sv2 3), some (sv2 4), some (sv2 5), some (sv2 6), some (sv2 7)])))))), (sv2 0, .inr (2, cS ((U2 0)))), (sv2 1, .inr (2, cS ((U2 1)))), (sv2 2, .inr (2, cS ((U2 2)))), (sv2 3, .inr (2, cS ((U2 3)))), (sv2 4, .inr (2, cS ((U2 4)))), (sv2 5, .inr (2, cS ((U2 5)))), (sv2 6, .inr (2, cS ((U2 6)))), (sv2 7, .inr (2, cS ((U2 7)))), (sch, .inr (1, [.ref tx, .int (nI L), .ref ip, .ref ic, .int (nI ((rdF T L (S 1) L 0 0 (0, P, K)).2.1))])), (tx, .inl (ca 2, 80, .inl (rwN T))), (ip, .inl (ca 0, 40, .inl (rwN ((rdF T L (S 1) L 0 0 (0, P, K)).2.2.1)))), (ic, .inl (ca 0, 40, .inl (rwN ((rdF T L (S 1) L 0 0 (0, P, K)).2.2.2))))] H := hP.sub [4, 5, 6, 7, 8, 9, 10, 11, 12, 13, 14, 0, 1, 2, 3] rfl
    have hD : va_D A [(g, .inr (3, [.ref pr, .ref sc, .ref sa, .int (nI n2), .ref sl, .ref sch, vW, .null])), (pr, .inr (2, cS S)), (sa, .inl (ca 4, 8, .inr (.inr (.inr (.inr (qo [some (sv2 0), some (sv2 1), some (sv2 2), some (sv2 3), some (sv2 4), some (sv2 5), some (sv2 6), some (sv2 7)])))))), (sv2 0, .inr (2, cS ((U2 0)))), (sv2 1, .inr (2, cS ((U2 1)))), (sv2 2, .inr (2, cS ((U2 2)))), (sv2 3, .inr (2, cS ((U2 3)))), (sv2 4, .inr (2, cS ((U2 4)))), (sv2 5, .inr (2, cS ((U2 5)))), (sv2 6, .inr (2, cS ((U2 6)))), (sv2 7, .inr (2, cS ((U2 7)))), (sch, .inr (1, [.ref tx, .int (nI L), .ref ip, .ref ic, .int (nI ((rdF T L (S 1) L 0 0 (0, P, K)).2.1))])), (tx, .inl (ca 2, 80, .inl (rwN T))), (ip, .inl (ca 0, 40, .inl (rwN ((rdF T L (S 1) L 0 0 (0, P, K)).2.2.1)))), (ic, .inl (ca 0, 40, .inl (rwN ((rdF T L (S 1) L 0 0 (0, P, K)).2.2.2))))] := hD.sub [4, 5, 6, 7, 8, 9, 10, 11, 12, 13, 14, 0, 1, 2, 3] (by decide) rfl
    refine W.eq (g2 := F0 m_ 29 ls []) rfl ?_
    refine lv_aload_n hx hb dX5_runText_29 rfl (lv_at hl 1 rfl) ?_
    refine va_get (D := D) (ci := 3) (v := .ref sch) (C := RX5) (T := TX5) (N := 8) hx hb hts hinX50 hown hK.1 hP 0 rfl rfl 5 (by decide) (hts (.fieldLink RX5 33 "RenamingGrid" "schedule" "LRenamingGrid$Schedule;") (List.mem_of_getElem? (i := 1) rfl)) (fun _ h9 => h9) rfl dX5_runText_30 ?_
    refine lv_aload_n hx hb dX5_runText_33 rfl (lv_at hl 1 rfl) ?_
    refine va_get (D := D) (ci := 3) (v := .ref pr) (C := RX5) (T := TX5) (N := 8) hx hb hts hinX50 hown hK.1 hP 0 rfl rfl 0 (by decide) (hts (.fieldLink RX5 10 "RenamingGrid" "present" "LRenamingGrid$State;") (List.mem_of_getElem? (i := 2) rfl)) (fun _ h9 => h9) rfl dX5_runText_34 ?_
    refine uV (nL := 3) (wr := [(g, .inr (3, [.ref pr, .ref sc, .ref sa, .int (nI n2), .ref sl, .ref sch, vW, .null])), (sa, .inl (ca 4, 8, .inr (.inr (.inr (.inr (qo [some (sv2 0), some (sv2 1), some (sv2 2), some (sv2 3), some (sv2 4), some (sv2 5), some (sv2 6), some (sv2 7)])))))), (sv2 0, .inr (2, cS ((U2 0)))), (sv2 1, .inr (2, cS ((U2 1)))), (sv2 2, .inr (2, cS ((U2 2)))), (sv2 3, .inr (2, cS ((U2 3)))), (sv2 4, .inr (2, cS ((U2 4)))), (sv2 5, .inr (2, cS ((U2 5)))), (sv2 6, .inr (2, cS ((U2 6)))), (sv2 7, .inr (2, cS ((U2 7)))), (tx, .inl (ca 2, 80, .inl (rwN T)))]) (ci := 1) (q0 := 11) (cq := (RX3, TX3, 5)) hx hb hml hown hts hK hA hP hD hS [.ref pr] [] (c_X3_executeOn l D ca sch tx ip ic pr L ((rdF T L (S 1) L 0 0 (0, P, K)).2.1) (((rdF T L (S 1) L 0 0 (0, P, K)).2.2.1)) (((rdF T L (S 1) L 0 0 (0, P, K)).2.2.2)) S (by omega) (fun i hi => ⟨by have := (hri i hi).1; omega, by have := (hri i hi).2; omega⟩) hok) gX5_runText_X3_executeOn rfl ⟨rfl, qX3_executeOn⟩ ⟨Nat.le_of_ble_eq_true rfl, Nat.le_of_ble_eq_true rfl⟩ rfl rfl [11, 13, 14, 1] [0, 2, 3, 4, 5, 6, 7, 8, 9, 10, 12] rfl rfl (by decide) (by decide) rfl hl.1 (Nat.le_of_ble_eq_true rfl) ⟨Nat.le_of_ble_eq_true rfl, Nat.le_of_ble_eq_true rfl⟩ dX5_runText_37 (oneK (wsN := [(g, .inr (3, [.ref pr, .ref sc, .ref sa, .int (nI n2), .ref sl, .ref sch, vW, .null])), (pr, .inr (2, cS ((exS ((rdF T L (S 1) L 0 0 (0, P, K)).2.1, ((rdF T L (S 1) L 0 0 (0, P, K)).2.2.1), ((rdF T L (S 1) L 0 0 (0, P, K)).2.2.2)) ((rdF T L (S 1) L 0 0 (0, P, K)).2.1) 0 S)))), (sa, .inl (ca 4, 8, .inr (.inr (.inr (.inr (qo [some (sv2 0), some (sv2 1), some (sv2 2), some (sv2 3), some (sv2 4), some (sv2 5), some (sv2 6), some (sv2 7)])))))), (sv2 0, .inr (2, cS ((U2 0)))), (sv2 1, .inr (2, cS ((U2 1)))), (sv2 2, .inr (2, cS ((U2 2)))), (sv2 3, .inr (2, cS ((U2 3)))), (sv2 4, .inr (2, cS ((U2 4)))), (sv2 5, .inr (2, cS ((U2 5)))), (sv2 6, .inr (2, cS ((U2 6)))), (sv2 7, .inr (2, cS ((U2 7)))), (sch, .inr (1, [.ref tx, .int (nI L), .ref ip, .ref ic, .int (nI ((rdF T L (S 1) L 0 0 (0, P, K)).2.1))])), (tx, .inl (ca 2, 80, .inl (rwN T))), (ip, .inl (ca 0, 40, .inl (rwN ((rdF T L (S 1) L 0 0 (0, P, K)).2.2.1)))), (ic, .inl (ca 0, 40, .inl (rwN ((rdF T L (S 1) L 0 0 (0, P, K)).2.2.2))))]) [0, 14, 1, 2, 3, 4, 5, 6, 7, 8, 9, 11, 10, 12, 13] (by decide) rfl (st1 := [.int (nI (exN ((rdF T L (S 1) L 0 0 (0, P, K)).2.1, ((rdF T L (S 1) L 0 0 (0, P, K)).2.2.1), ((rdF T L (S 1) L 0 0 (0, P, K)).2.2.2)) ((rdF T L (S 1) L 0 0 (0, P, K)).2.1) 0 S))]) rfl 0 0 rfl rfl (fun H locs hP hD hS => ?_))
    refine lv_istore_n (lv' := [(2, .int (nI (exN ((rdF T L (S 1) L 0 0 (0, P, K)).2.1, ((rdF T L (S 1) L 0 0 (0, P, K)).2.2.1), ((rdF T L (S 1) L 0 0 (0, P, K)).2.2.2)) ((rdF T L (S 1) L 0 0 (0, P, K)).2.1) 0 S))), (1, .int ((zI (rdF T L (S 1) L 0 0 (0, P, K)).1))), (0, .ref g)]) hx hb dX5_runText_40 rfl hl (by decide) rfl (fun ls hl => ?_)
    refine lv_aload_n hx hb dX5_runText_41 rfl (lv_at hl 2 rfl) ?_
    refine va_get (D := D) (ci := 3) (v := .ref sch) (C := RX5) (T := TX5) (N := 8) hx hb hts hinX50 hown hK.1 hP 0 rfl rfl 5 (by decide) (hts (.fieldLink RX5 33 "RenamingGrid" "schedule" "LRenamingGrid$Schedule;") (List.mem_of_getElem? (i := 1) rfl)) (fun _ h9 => h9) rfl dX5_runText_42 ?_
    refine uV (nL := 3) (wr := [(g, .inr (3, [.ref pr, .ref sc, .ref sa, .int (nI n2), .ref sl, .ref sch, vW, .null])), (pr, .inr (2, cS ((exS ((rdF T L (S 1) L 0 0 (0, P, K)).2.1, ((rdF T L (S 1) L 0 0 (0, P, K)).2.2.1), ((rdF T L (S 1) L 0 0 (0, P, K)).2.2.2)) ((rdF T L (S 1) L 0 0 (0, P, K)).2.1) 0 S)))), (sa, .inl (ca 4, 8, .inr (.inr (.inr (.inr (qo [some (sv2 0), some (sv2 1), some (sv2 2), some (sv2 3), some (sv2 4), some (sv2 5), some (sv2 6), some (sv2 7)])))))), (sv2 0, .inr (2, cS ((U2 0)))), (sv2 1, .inr (2, cS ((U2 1)))), (sv2 2, .inr (2, cS ((U2 2)))), (sv2 3, .inr (2, cS ((U2 3)))), (sv2 4, .inr (2, cS ((U2 4)))), (sv2 5, .inr (2, cS ((U2 5)))), (sv2 6, .inr (2, cS ((U2 6)))), (sv2 7, .inr (2, cS ((U2 7)))), (tx, .inl (ca 2, 80, .inl (rwN T))), (ip, .inl (ca 0, 40, .inl (rwN ((rdF T L (S 1) L 0 0 (0, P, K)).2.2.1)))), (ic, .inl (ca 0, 40, .inl (rwN ((rdF T L (S 1) L 0 0 (0, P, K)).2.2.2))))]) (ci := 1) (q0 := 11) (cq := (RX3, TX3, 5)) hx hb hml hown hts hK hA hP hD hS [] [] (c_X3_clear l D ca sch tx ip ic L ((rdF T L (S 1) L 0 0 (0, P, K)).2.1)) gX5_runText_X3_clear rfl ⟨rfl, qX3_clear⟩ ⟨Nat.le_of_ble_eq_true rfl, Nat.le_of_ble_eq_true rfl⟩ rfl rfl [11] [0, 1, 2, 3, 4, 5, 6, 7, 8, 9, 10, 12, 13, 14] rfl rfl (by decide) (by decide) rfl hl.1 (Nat.le_of_ble_eq_true rfl) ⟨Nat.le_of_ble_eq_true rfl, Nat.le_of_ble_eq_true rfl⟩ dX5_runText_45 (oneK (wsN := [(g, .inr (3, [.ref pr, .ref sc, .ref sa, .int (nI n2), .ref sl, .ref sch, vW, .null])), (pr, .inr (2, cS ((exS ((rdF T L (S 1) L 0 0 (0, P, K)).2.1, ((rdF T L (S 1) L 0 0 (0, P, K)).2.2.1), ((rdF T L (S 1) L 0 0 (0, P, K)).2.2.2)) ((rdF T L (S 1) L 0 0 (0, P, K)).2.1) 0 S)))), (sa, .inl (ca 4, 8, .inr (.inr (.inr (.inr (qo [some (sv2 0), some (sv2 1), some (sv2 2), some (sv2 3), some (sv2 4), some (sv2 5), some (sv2 6), some (sv2 7)])))))), (sv2 0, .inr (2, cS ((U2 0)))), (sv2 1, .inr (2, cS ((U2 1)))), (sv2 2, .inr (2, cS ((U2 2)))), (sv2 3, .inr (2, cS ((U2 3)))), (sv2 4, .inr (2, cS ((U2 4)))), (sv2 5, .inr (2, cS ((U2 5)))), (sv2 6, .inr (2, cS ((U2 6)))), (sv2 7, .inr (2, cS ((U2 7)))), (sch, .inr (1, [.ref tx, .int (nI 0), .ref ip, .ref ic, .int (nI ((rdF T L (S 1) L 0 0 (0, P, K)).2.1))])), (tx, .inl (ca 2, 80, .inl (rwN T))), (ip, .inl (ca 0, 40, .inl (rwN ((rdF T L (S 1) L 0 0 (0, P, K)).2.2.1)))), (ic, .inl (ca 0, 40, .inl (rwN ((rdF T L (S 1) L 0 0 (0, P, K)).2.2.2))))]) [0, 1, 2, 3, 4, 5, 6, 7, 8, 9, 10, 14, 11, 12, 13] (by decide) rfl (st1 := [.int (nI L)]) rfl 0 0 rfl rfl (fun H locs hP hD hS => ?_))
    refine lv_pop hx hb dX5_runText_48 rfl ?_
    refine lv_iload_n hx hb dX5_runText_49 rfl (lv_at hl 0 rfl) ?_
    exact uRetI hx hb hr hlocks hK hP hD hS ⟨fun _ => ⟨rfl, sv2, U2, n2, _, _, _, rfl, hkp⟩, fun z => absurd c17 z⟩ (Nat.le_of_ble_eq_true rfl) (Nat.le_of_ble_eq_true rfl) dX5_runText_50
  · rw [zI_m1 (by omega)] at c17
    refine lv_bipush (v := -10) hx hb dX5_runText_20 (by decide) ?_
    refine lv_iload_n hx hb dX5_runText_22 rfl (lv_at hl 0 rfl) ?_
    refine lv_isub hx hb dX5_runText_23 ?_
    exact uRetI hx hb hr hlocks hK hP hD hS ⟨fun z => absurd z c17, fun _ => ⟨by rw [zI_p (by omega)], _, _, _, rfl⟩⟩ (Nat.le_of_ble_eq_true rfl) (Nat.le_of_ble_eq_true rfl) dX5_runText_24

