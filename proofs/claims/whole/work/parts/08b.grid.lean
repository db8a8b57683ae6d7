/-! ===== RenamingGrid: rows of references; the answers ===== -/
def qo (L : List (Option Nat)) : Nat → Option Nat := fun i => L.getD i none
theorem qo_up {L L2 : List (Option Nat)} {k v : Nat} (hk : k < L.length) (h : L.set k (some v) = L2) : va_up (qo L) k (some v) = qo L2 := by
  subst h
  funext i
  unfold va_up qo
  rw [List.getD_eq_getElem?_getD, List.getD_eq_getElem?_getD, List.getElem?_set]
  by_cases c : i = k
  · subst c
    simp [hk]
  · rw [if_neg c, if_neg (fun e => c e.symm)]
theorem qo_none (n : Nat) : (fun _ => none : Nat → Option Nat) = qo (List.replicate n none) := by
  funext i
  unfold qo
  rw [List.getD_eq_getElem?_getD, List.getElem?_replicate]
  split <;> rfl
def nmS (S : Nat → Nat) : Nat := S 0 * (S 0 + 1) / 2
theorem nmS_le {S : Nat → Nat} (h : SOK S) : nmS S ≤ 10 := by
  have h1 := h.1.2
  have : S 0 * (S 0 + 1) ≤ 4 * 5 := Nat.mul_le_mul h1 (by omega)
  show S 0 * (S 0 + 1) / 2 ≤ 10
  omega
/-- an answer that wants a number below n -/
def ansP (n : Nat) (q : Int32) (F : Nat → Int32) : Int32 := if inR n q then F q.toNatClampNeg else -1
theorem ansP_t {n j : Nat} {F : Nat → Int32} (h : j < n) (hn : n < 2 ^ 31) : ansP n (nI j) F = F j := by unfold ansP; rw [if_pos (inR_nI hn h), nI_clamp (by omega)]
theorem ansP_f {n : Nat} {q : Int32} {F : Nat → Int32} (h : ¬ inR n q) : ansP n q F = -1 := by unfold ansP; rw [if_neg h]

set_option maxHeartbeats 4000000 in
set_option maxRecDepth 100000 in
theorem c_X5_nameCount (l : Launch) (D : va_G) (ca : Nat → ClassId) (g pr sc sa sl sch : Nat) (nS : Nat) (vW vT : Value) (S : Nat → Nat) (hok : SOK S) : RD l D ca yX5_nameCount wsX5_nameCount 1 20 [(g, .inr (3, [.ref pr, .ref sc, .ref sa, .int (nI nS), .ref sl, .ref sch, vW, vT])), (pr, .inr (2, cS S))] [.ref g] (.int (nI (nmS S))) := by
  refine RD.start (cc := cX5_nameCount) (maxL := 1) (ret := (some .int)) (by decide) rfl (Nat.le_of_ble_eq_true rfl) ?_
  intro p_ e_ s_ m_ below_ meth_ c_ hx hb hml hr hlocks hown hts hP hK ls hl
  have hown : s_.vm.findClass RX5 = some m_.cls := hown
  have hl : lv_has ls 1 [(0, .ref g)] := hl
  have hinX50 : ∀ w ∈ wsX50, w ∈ wsX5_nameCount := fun w h => List.mem_cons_of_mem _ (List.mem_append_left _ (List.mem_append_right _ h))
  have hinX40 : ∀ w ∈ wsX40, w ∈ wsX5_nameCount := fun w h => List.mem_cons_of_mem _ (List.mem_append_right _ h)
  have hC := hok.2.2.2.1
  have hz := hok.1
  have hn3 := hok.2.1
  have hg := hok.2.2.1
  have hnm := nmS_le hok
  have hct := hok.2.2.2.2.2.2.1
  refine lv_aload_n hx hb dX5_nameCount_0 rfl (lv_at hl 0 rfl) ?_
  refine va_get (D := D) (ci := 3) (v := .ref pr) (C := RX5) (T := TX5) (N := 8) hx hb hts hinX50 hown hK.1 hP 0 rfl rfl 0 (by decide) (hts (.fieldLink RX5 10 "RenamingGrid" "present" "LRenamingGrid$State;") (List.mem_of_getElem? (i := 1) rfl)) (fun _ h9 => h9) rfl dX5_nameCount_1 ?_
  refine rdV (nL := 1) (ci := 2) (q0 := 1) (cq := (RX4, TX4, 8)) hx hb hml hown hts hK hP [] [] (c_X4_names l D ca pr S  (by omega)) gX5_nameCount_X4_names rfl ⟨rfl, qX4_names⟩ ⟨Nat.le_of_ble_eq_true rfl, Nat.le_of_ble_eq_true rfl⟩ rfl rfl [1] rfl rfl hl.1 (Nat.le_of_ble_eq_true rfl) ⟨Nat.le_of_ble_eq_true rfl, Nat.le_of_ble_eq_true rfl⟩ dX5_nameCount_4 ?_
  exact rRetI hx hb hr hlocks rfl dX5_nameCount_7

set_option maxHeartbeats 4000000 in
set_option maxRecDepth 100000 in
theorem c_X5_processCount (l : Launch) (D : va_G) (ca : Nat → ClassId) (g pr sc sa sl sch : Nat) (nS : Nat) (vW vT : Value) (S : Nat → Nat) : RD l D ca yX5_processCount wsX5_processCount 0 0 [(g, .inr (3, [.ref pr, .ref sc, .ref sa, .int (nI nS), .ref sl, .ref sch, vW, vT])), (pr, .inr (2, cS S))] [.ref g] (.int (nI (S 1))) := by
  refine RD.start (cc := cX5_processCount) (maxL := 1) (ret := (some .int)) (by decide) rfl (Nat.le_of_ble_eq_true rfl) ?_
  intro p_ e_ s_ m_ below_ meth_ c_ hx hb hml hr hlocks hown hts hP hK ls hl
  have hown : s_.vm.findClass RX5 = some m_.cls := hown
  have hl : lv_has ls 1 [(0, .ref g)] := hl
  have hinX50 : ∀ w ∈ wsX50, w ∈ wsX5_processCount := fun w h => List.mem_cons_of_mem _ (List.mem_append_left _ (List.mem_append_right _ h))
  have hinX40 : ∀ w ∈ wsX40, w ∈ wsX5_processCount := fun w h => List.mem_cons_of_mem _ (List.mem_append_right _ h)
  refine lv_aload_n hx hb dX5_processCount_0 rfl (lv_at hl 0 rfl) ?_
  refine va_get (D := D) (ci := 3) (v := .ref pr) (C := RX5) (T := TX5) (N := 8) hx hb hts hinX50 hown hK.1 hP 0 rfl rfl 0 (by decide) (hts (.fieldLink RX5 10 "RenamingGrid" "present" "LRenamingGrid$State;") (List.mem_of_getElem? (i := 1) rfl)) (fun _ h9 => h9) rfl dX5_processCount_1 ?_
  refine va_getN (D := D) (ci := 2) (v := .int (nI (S 1))) (C := RX4) (T := TX4) (N := 8) hx hb hts hinX40 hown hK.1 hP 1 rfl rfl 1 (by decide) (nw2 hK) (fun _ h9 => h9) rfl dX5_processCount_4 ?_
  exact rRetI hx hb hr hlocks rfl dX5_processCount_7

set_option maxHeartbeats 4000000 in
set_option maxRecDepth 100000 in
theorem c_X5_status (l : Launch) (D : va_G) (ca : Nat → ClassId) (g pr sc sa sl sch : Nat) (nS : Nat) (vW vT : Value) (S : Nat → Nat) (q : Int32) (hok : SOK S) : RD l D ca yX5_status wsX5_status 1 22 [(g, .inr (3, [.ref pr, .ref sc, .ref sa, .int (nI nS), .ref sl, .ref sch, vW, vT])), (pr, .inr (2, cS S))] [.ref g, .int q] (.int ((ansP (S 1) q (fun j => nI (stC (S 3) j))))) := by
  refine RD.start (cc := cX5_status) (maxL := 2) (ret := (some .int)) (by decide) rfl (Nat.le_of_ble_eq_true rfl) ?_
  intro p_ e_ s_ m_ below_ meth_ c_ hx hb hml hr hlocks hown hts hP hK ls hl
  have hown : s_.vm.findClass RX5 = some m_.cls := hown
  have hl : lv_has ls 2 [(0, .ref g), (1, .int q)] := hl
  have hinX50 : ∀ w ∈ wsX50, w ∈ wsX5_status := fun w h => List.mem_cons_of_mem _ (List.mem_append_left _ (List.mem_append_right _ h))
  have hinX40 : ∀ w ∈ wsX40, w ∈ wsX5_status := fun w h => List.mem_cons_of_mem _ (List.mem_append_right _ h)
  have hC := hok.2.2.2.1
  have hz := hok.1
  have hn3 := hok.2.1
  have hg := hok.2.2.1
  have hnm := nmS_le hok
  have hct := hok.2.2.2.2.2.2.1
  refine lv_aload_n hx hb dX5_status_0 rfl (lv_at hl 0 rfl) ?_
  refine va_get (D := D) (ci := 3) (v := .ref pr) (C := RX5) (T := TX5) (N := 8) hx hb hts hinX50 hown hK.1 hP 0 rfl rfl 0 (by decide) (hts (.fieldLink RX5 10 "RenamingGrid" "present" "LRenamingGrid$State;") (List.mem_of_getElem? (i := 1) rfl)) (fun _ h9 => h9) rfl dX5_status_1 ?_
  refine lv_iload_n hx hb dX5_status_4 rfl (lv_at hl 1 rfl) ?_
  refine rdV (nL := 2) (ci := 2) (q0 := 1) (cq := (RX4, TX4, 8)) hx hb hml hown hts hK hP [.int q] [] (c_X4_hasProcess l D ca pr S q ) gX5_status_X4_hasProcess rfl ⟨rfl, qX4_hasProcess⟩ ⟨Nat.le_of_ble_eq_true rfl, Nat.le_of_ble_eq_true rfl⟩ rfl rfl [1] rfl rfl hl.1 (Nat.le_of_ble_eq_true rfl) ⟨Nat.le_of_ble_eq_true rfl, Nat.le_of_ble_eq_true rfl⟩ dX5_status_5 ?_
  refine n_if_ne (tgt := 13) hx hb dX5_status_8 (by decide) (bN_b _) (fun c8 => ?_) (fun c8 => ?_)
  · rw [bN_1] at c8
    obtain ⟨j, hj, rfl⟩ := inR_j (n := (S 1)) (by omega) c8
    refine lv_aload_n hx hb dX5_status_13 rfl (lv_at hl 0 rfl) ?_
    refine va_get (D := D) (ci := 3) (v := .ref pr) (C := RX5) (T := TX5) (N := 8) hx hb hts hinX50 hown hK.1 hP 0 rfl rfl 0 (by decide) (hts (.fieldLink RX5 10 "RenamingGrid" "present" "LRenamingGrid$State;") (List.mem_of_getElem? (i := 1) rfl)) (fun _ h9 => h9) rfl dX5_status_14 ?_
    refine va_getN (D := D) (ci := 2) (v := .long (lN (S 3))) (C := RX4) (T := TX4) (N := 8) hx hb hts hinX40 hown hK.1 hP 1 rfl rfl 3 (by decide) (nw5 hK) (fun _ h9 => h9) rfl dX5_status_17 ?_
    refine lv_iload_n hx hb dX5_status_20 rfl (lv_at hl 1 rfl) ?_
    refine rdS (nL := 2) hx hb hml hown hts hK hP [.long (lN (S 3)), .int (nI j)] [] (c_X0_statusIn l D ca (S 3) j hC (by omega)) gX5_status_X0_statusIn rfl qX0_statusIn ⟨Nat.le_of_ble_eq_true rfl, Nat.le_of_ble_eq_true rfl⟩ [] rfl rfl hl.1 (Nat.le_of_ble_eq_true rfl) ⟨Nat.le_of_ble_eq_true rfl, Nat.le_of_ble_eq_true rfl⟩ dX5_status_21 ?_
    exact rRetI hx hb hr hlocks (congrArg Value.int (by rw [ansP_t hj (by omega)])) dX5_status_24
  · rw [bN_0] at c8
    refine lv_iconst (v := -1) hx hb dX5_status_11 (by decide) ?_
    exact rRetI hx hb hr hlocks (congrArg Value.int (by rw [ansP_f (show ¬ inR (S 1) q from c8)])) dX5_status_12

set_option maxHeartbeats 4000000 in
set_option maxRecDepth 100000 in
theorem c_X5_splitterOf (l : Launch) (D : va_G) (ca : Nat → ClassId) (g pr sc sa sl sch : Nat) (nS : Nat) (vW vT : Value) (S : Nat → Nat) (q : Int32) (hok : SOK S) : RD l D ca yX5_splitterOf wsX5_splitterOf 1 22 [(g, .inr (3, [.ref pr, .ref sc, .ref sa, .int (nI nS), .ref sl, .ref sch, vW, vT])), (pr, .inr (2, cS S))] [.ref g, .int q] (.int ((ansP (S 1) q (fun j => if stC (S 3) j = 2 then -9 else nI (spC (S 3) j))))) := by
  refine RD.start (cc := cX5_splitterOf) (maxL := 2) (ret := (some .int)) (by decide) rfl (Nat.le_of_ble_eq_true rfl) ?_
  intro p_ e_ s_ m_ below_ meth_ c_ hx hb hml hr hlocks hown hts hP hK ls hl
  have hown : s_.vm.findClass RX5 = some m_.cls := hown
  have hl : lv_has ls 2 [(0, .ref g), (1, .int q)] := hl
  have hinX50 : ∀ w ∈ wsX50, w ∈ wsX5_splitterOf := fun w h => List.mem_cons_of_mem _ (List.mem_append_left _ (List.mem_append_right _ h))
  have hinX40 : ∀ w ∈ wsX40, w ∈ wsX5_splitterOf := fun w h => List.mem_cons_of_mem _ (List.mem_append_right _ h)
  have hC := hok.2.2.2.1
  have hz := hok.1
  have hn3 := hok.2.1
  have hg := hok.2.2.1
  have hnm := nmS_le hok
  have hct := hok.2.2.2.2.2.2.1
  refine lv_aload_n hx hb dX5_splitterOf_0 rfl (lv_at hl 0 rfl) ?_
  refine va_get (D := D) (ci := 3) (v := .ref pr) (C := RX5) (T := TX5) (N := 8) hx hb hts hinX50 hown hK.1 hP 0 rfl rfl 0 (by decide) (hts (.fieldLink RX5 10 "RenamingGrid" "present" "LRenamingGrid$State;") (List.mem_of_getElem? (i := 1) rfl)) (fun _ h9 => h9) rfl dX5_splitterOf_1 ?_
  refine lv_iload_n hx hb dX5_splitterOf_4 rfl (lv_at hl 1 rfl) ?_
  refine rdV (nL := 2) (ci := 2) (q0 := 1) (cq := (RX4, TX4, 8)) hx hb hml hown hts hK hP [.int q] [] (c_X4_hasProcess l D ca pr S q ) gX5_splitterOf_X4_hasProcess rfl ⟨rfl, qX4_hasProcess⟩ ⟨Nat.le_of_ble_eq_true rfl, Nat.le_of_ble_eq_true rfl⟩ rfl rfl [1] rfl rfl hl.1 (Nat.le_of_ble_eq_true rfl) ⟨Nat.le_of_ble_eq_true rfl, Nat.le_of_ble_eq_true rfl⟩ dX5_splitterOf_5 ?_
  refine n_if_ne (tgt := 13) hx hb dX5_splitterOf_8 (by decide) (bN_b _) (fun c8 => ?_) (fun c8 => ?_)
  · rw [bN_1] at c8
    obtain ⟨j, hj, rfl⟩ := inR_j (n := (S 1)) (by omega) c8
    refine lv_aload_n hx hb dX5_splitterOf_13 rfl (lv_at hl 0 rfl) ?_
    refine va_get (D := D) (ci := 3) (v := .ref pr) (C := RX5) (T := TX5) (N := 8) hx hb hts hinX50 hown hK.1 hP 0 rfl rfl 0 (by decide) (hts (.fieldLink RX5 10 "RenamingGrid" "present" "LRenamingGrid$State;") (List.mem_of_getElem? (i := 1) rfl)) (fun _ h9 => h9) rfl dX5_splitterOf_14 ?_
    refine va_getN (D := D) (ci := 2) (v := .long (lN (S 3))) (C := RX4) (T := TX4) (N := 8) hx hb hts hinX40 hown hK.1 hP 1 rfl rfl 3 (by decide) (nw5 hK) (fun _ h9 => h9) rfl dX5_splitterOf_17 ?_
    refine lv_iload_n hx hb dX5_splitterOf_20 rfl (lv_at hl 1 rfl) ?_
    refine rdS (nL := 2) hx hb hml hown hts hK hP [.long (lN (S 3)), .int (nI j)] [] (c_X0_statusIn l D ca (S 3) j hC (by omega)) gX5_splitterOf_X0_statusIn rfl qX0_statusIn ⟨Nat.le_of_ble_eq_true rfl, Nat.le_of_ble_eq_true rfl⟩ [] rfl rfl hl.1 (Nat.le_of_ble_eq_true rfl) ⟨Nat.le_of_ble_eq_true rfl, Nat.le_of_ble_eq_true rfl⟩ dX5_splitterOf_21 ?_
    refine lv_iconst (v := nI 2) hx hb dX5_splitterOf_24 (by decide) ?_
    refine n_ic_ne (tgt := 31) hx hb dX5_splitterOf_25 (by decide) (stC_b _ _) (by decide) (fun c25 => ?_) (fun c25 => ?_)
    · refine lv_aload_n hx hb dX5_splitterOf_31 rfl (lv_at hl 0 rfl) ?_
      refine va_get (D := D) (ci := 3) (v := .ref pr) (C := RX5) (T := TX5) (N := 8) hx hb hts hinX50 hown hK.1 hP 0 rfl rfl 0 (by decide) (hts (.fieldLink RX5 10 "RenamingGrid" "present" "LRenamingGrid$State;") (List.mem_of_getElem? (i := 1) rfl)) (fun _ h9 => h9) rfl dX5_splitterOf_32 ?_
      refine va_getN (D := D) (ci := 2) (v := .long (lN (S 3))) (C := RX4) (T := TX4) (N := 8) hx hb hts hinX40 hown hK.1 hP 1 rfl rfl 3 (by decide) (nw5 hK) (fun _ h9 => h9) rfl dX5_splitterOf_35 ?_
      refine lv_iload_n hx hb dX5_splitterOf_38 rfl (lv_at hl 1 rfl) ?_
      refine rdS (nL := 2) hx hb hml hown hts hK hP [.long (lN (S 3)), .int (nI j)] [] (c_X0_splitterIn l D ca (S 3) j hC (by omega)) gX5_splitterOf_X0_splitterIn rfl qX0_splitterIn ⟨Nat.le_of_ble_eq_true rfl, Nat.le_of_ble_eq_true rfl⟩ [] rfl rfl hl.1 (Nat.le_of_ble_eq_true rfl) ⟨Nat.le_of_ble_eq_true rfl, Nat.le_of_ble_eq_true rfl⟩ dX5_splitterOf_39 ?_
      exact rRetI hx hb hr hlocks (congrArg Value.int (by rw [ansP_t hj (by omega), if_neg c25])) dX5_splitterOf_42
    · refine lv_bipush (v := -9) hx hb dX5_splitterOf_28 (by decide) ?_
      exact rRetI hx hb hr hlocks (congrArg Value.int (by rw [ansP_t hj (by omega), if_pos c25])) dX5_splitterOf_30
  · rw [bN_0] at c8
    refine lv_iconst (v := -1) hx hb dX5_splitterOf_11 (by decide) ?_
    exact rRetI hx hb hr hlocks (congrArg Value.int (by rw [ansP_f (show ¬ inR (S 1) q from c8)])) dX5_splitterOf_12

set_option maxHeartbeats 4000000 in
set_option maxRecDepth 100000 in
theorem c_X5_phaseOf (l : Launch) (D : va_G) (ca : Nat → ClassId) (g pr sc sa sl sch : Nat) (nS : Nat) (vW vT : Value) (S : Nat → Nat) (q : Int32) (hok : SOK S) : RD l D ca yX5_phaseOf wsX5_phaseOf 1 22 [(g, .inr (3, [.ref pr, .ref sc, .ref sa, .int (nI nS), .ref sl, .ref sch, vW, vT])), (pr, .inr (2, cS S))] [.ref g, .int q] (.int ((ansP (S 1) q (fun j => if stC (S 3) j = 2 then -9 else nI (phC (S 3) j))))) := by
  refine RD.start (cc := cX5_phaseOf) (maxL := 2) (ret := (some .int)) (by decide) rfl (Nat.le_of_ble_eq_true rfl) ?_
  intro p_ e_ s_ m_ below_ meth_ c_ hx hb hml hr hlocks hown hts hP hK ls hl
  have hown : s_.vm.findClass RX5 = some m_.cls := hown
  have hl : lv_has ls 2 [(0, .ref g), (1, .int q)] := hl
  have hinX50 : ∀ w ∈ wsX50, w ∈ wsX5_phaseOf := fun w h => List.mem_cons_of_mem _ (List.mem_append_left _ (List.mem_append_right _ h))
  have hinX40 : ∀ w ∈ wsX40, w ∈ wsX5_phaseOf := fun w h => List.mem_cons_of_mem _ (List.mem_append_right _ h)
  have hC := hok.2.2.2.1
  have hz := hok.1
  have hn3 := hok.2.1
  have hg := hok.2.2.1
  have hnm := nmS_le hok
  have hct := hok.2.2.2.2.2.2.1
  refine lv_aload_n hx hb dX5_phaseOf_0 rfl (lv_at hl 0 rfl) ?_
  refine va_get (D := D) (ci := 3) (v := .ref pr) (C := RX5) (T := TX5) (N := 8) hx hb hts hinX50 hown hK.1 hP 0 rfl rfl 0 (by decide) (hts (.fieldLink RX5 10 "RenamingGrid" "present" "LRenamingGrid$State;") (List.mem_of_getElem? (i := 1) rfl)) (fun _ h9 => h9) rfl dX5_phaseOf_1 ?_
  refine lv_iload_n hx hb dX5_phaseOf_4 rfl (lv_at hl 1 rfl) ?_
  refine rdV (nL := 2) (ci := 2) (q0 := 1) (cq := (RX4, TX4, 8)) hx hb hml hown hts hK hP [.int q] [] (c_X4_hasProcess l D ca pr S q ) gX5_phaseOf_X4_hasProcess rfl ⟨rfl, qX4_hasProcess⟩ ⟨Nat.le_of_ble_eq_true rfl, Nat.le_of_ble_eq_true rfl⟩ rfl rfl [1] rfl rfl hl.1 (Nat.le_of_ble_eq_true rfl) ⟨Nat.le_of_ble_eq_true rfl, Nat.le_of_ble_eq_true rfl⟩ dX5_phaseOf_5 ?_
  refine n_if_ne (tgt := 13) hx hb dX5_phaseOf_8 (by decide) (bN_b _) (fun c8 => ?_) (fun c8 => ?_)
  · rw [bN_1] at c8
    obtain ⟨j, hj, rfl⟩ := inR_j (n := (S 1)) (by omega) c8
    refine lv_aload_n hx hb dX5_phaseOf_13 rfl (lv_at hl 0 rfl) ?_
    refine va_get (D := D) (ci := 3) (v := .ref pr) (C := RX5) (T := TX5) (N := 8) hx hb hts hinX50 hown hK.1 hP 0 rfl rfl 0 (by decide) (hts (.fieldLink RX5 10 "RenamingGrid" "present" "LRenamingGrid$State;") (List.mem_of_getElem? (i := 1) rfl)) (fun _ h9 => h9) rfl dX5_phaseOf_14 ?_
    refine va_getN (D := D) (ci := 2) (v := .long (lN (S 3))) (C := RX4) (T := TX4) (N := 8) hx hb hts hinX40 hown hK.1 hP 1 rfl rfl 3 (by decide) (nw5 hK) (fun _ h9 => h9) rfl dX5_phaseOf_17 ?_
    refine lv_iload_n hx hb dX5_phaseOf_20 rfl (lv_at hl 1 rfl) ?_
    refine rdS (nL := 2) hx hb hml hown hts hK hP [.long (lN (S 3)), .int (nI j)] [] (c_X0_statusIn l D ca (S 3) j hC (by omega)) gX5_phaseOf_X0_statusIn rfl qX0_statusIn ⟨Nat.le_of_ble_eq_true rfl, Nat.le_of_ble_eq_true rfl⟩ [] rfl rfl hl.1 (Nat.le_of_ble_eq_true rfl) ⟨Nat.le_of_ble_eq_true rfl, Nat.le_of_ble_eq_true rfl⟩ dX5_phaseOf_21 ?_
    refine lv_iconst (v := nI 2) hx hb dX5_phaseOf_24 (by decide) ?_
    refine n_ic_ne (tgt := 31) hx hb dX5_phaseOf_25 (by decide) (stC_b _ _) (by decide) (fun c25 => ?_) (fun c25 => ?_)
    · refine lv_aload_n hx hb dX5_phaseOf_31 rfl (lv_at hl 0 rfl) ?_
      refine va_get (D := D) (ci := 3) (v := .ref pr) (C := RX5) (T := TX5) (N := 8) hx hb hts hinX50 hown hK.1 hP 0 rfl rfl 0 (by decide) (hts (.fieldLink RX5 10 "RenamingGrid" "present" "LRenamingGrid$State;") (List.mem_of_getElem? (i := 1) rfl)) (fun _ h9 => h9) rfl dX5_phaseOf_32 ?_
      refine va_getN (D := D) (ci := 2) (v := .long (lN (S 3))) (C := RX4) (T := TX4) (N := 8) hx hb hts hinX40 hown hK.1 hP 1 rfl rfl 3 (by decide) (nw5 hK) (fun _ h9 => h9) rfl dX5_phaseOf_35 ?_
      refine lv_iload_n hx hb dX5_phaseOf_38 rfl (lv_at hl 1 rfl) ?_
      refine rdS (nL := 2) hx hb hml hown hts hK hP [.long (lN (S 3)), .int (nI j)] [] (c_X0_phaseIn l D ca (S 3) j hC (by omega)) gX5_phaseOf_X0_phaseIn rfl qX0_phaseIn ⟨Nat.le_of_ble_eq_true rfl, Nat.le_of_ble_eq_true rfl⟩ [] rfl rfl hl.1 (Nat.le_of_ble_eq_true rfl) ⟨Nat.le_of_ble_eq_true rfl, Nat.le_of_ble_eq_true rfl⟩ dX5_phaseOf_39 ?_
      exact rRetI hx hb hr hlocks (congrArg Value.int (by rw [ansP_t hj (by omega), if_neg c25])) dX5_phaseOf_42
    · refine lv_bipush (v := -9) hx hb dX5_phaseOf_28 (by decide) ?_
      exact rRetI hx hb hr hlocks (congrArg Value.int (by rw [ansP_t hj (by omega), if_pos c25])) dX5_phaseOf_30
  · rw [bN_0] at c8
    refine lv_iconst (v := -1) hx hb dX5_phaseOf_11 (by decide) ?_
    exact rRetI hx hb hr hlocks (congrArg Value.int (by rw [ansP_f (show ¬ inR (S 1) q from c8)])) dX5_phaseOf_12

set_option maxHeartbeats 4000000 in
set_option maxRecDepth 100000 in
theorem c_X5_stepsOf (l : Launch) (D : va_G) (ca : Nat → ClassId) (g pr sc sa sl sch : Nat) (nS : Nat) (vW vT : Value) (S : Nat → Nat) (q : Int32) (hok : SOK S) : RD l D ca yX5_stepsOf wsX5_stepsOf 1 22 [(g, .inr (3, [.ref pr, .ref sc, .ref sa, .int (nI nS), .ref sl, .ref sch, vW, vT])), (pr, .inr (2, cS S))] [.ref g, .int q] (.int ((ansP (S 1) q (fun j => nI (cnt (S 4) j))))) := by
  refine RD.start (cc := cX5_stepsOf) (maxL := 2) (ret := (some .int)) (by decide) rfl (Nat.le_of_ble_eq_true rfl) ?_
  intro p_ e_ s_ m_ below_ meth_ c_ hx hb hml hr hlocks hown hts hP hK ls hl
  have hown : s_.vm.findClass RX5 = some m_.cls := hown
  have hl : lv_has ls 2 [(0, .ref g), (1, .int q)] := hl
  have hinX50 : ∀ w ∈ wsX50, w ∈ wsX5_stepsOf := fun w h => List.mem_cons_of_mem _ (List.mem_append_left _ (List.mem_append_right _ h))
  have hinX40 : ∀ w ∈ wsX40, w ∈ wsX5_stepsOf := fun w h => List.mem_cons_of_mem _ (List.mem_append_right _ h)
  have hC := hok.2.2.2.1
  have hz := hok.1
  have hn3 := hok.2.1
  have hg := hok.2.2.1
  have hnm := nmS_le hok
  have hct := hok.2.2.2.2.2.2.1
  refine lv_aload_n hx hb dX5_stepsOf_0 rfl (lv_at hl 0 rfl) ?_
  refine va_get (D := D) (ci := 3) (v := .ref pr) (C := RX5) (T := TX5) (N := 8) hx hb hts hinX50 hown hK.1 hP 0 rfl rfl 0 (by decide) (hts (.fieldLink RX5 10 "RenamingGrid" "present" "LRenamingGrid$State;") (List.mem_of_getElem? (i := 1) rfl)) (fun _ h9 => h9) rfl dX5_stepsOf_1 ?_
  refine lv_iload_n hx hb dX5_stepsOf_4 rfl (lv_at hl 1 rfl) ?_
  refine rdV (nL := 2) (ci := 2) (q0 := 1) (cq := (RX4, TX4, 8)) hx hb hml hown hts hK hP [.int q] [] (c_X4_hasProcess l D ca pr S q ) gX5_stepsOf_X4_hasProcess rfl ⟨rfl, qX4_hasProcess⟩ ⟨Nat.le_of_ble_eq_true rfl, Nat.le_of_ble_eq_true rfl⟩ rfl rfl [1] rfl rfl hl.1 (Nat.le_of_ble_eq_true rfl) ⟨Nat.le_of_ble_eq_true rfl, Nat.le_of_ble_eq_true rfl⟩ dX5_stepsOf_5 ?_
  refine n_if_ne (tgt := 13) hx hb dX5_stepsOf_8 (by decide) (bN_b _) (fun c8 => ?_) (fun c8 => ?_)
  · rw [bN_1] at c8
    obtain ⟨j, hj, rfl⟩ := inR_j (n := (S 1)) (by omega) c8
    refine lv_aload_n hx hb dX5_stepsOf_13 rfl (lv_at hl 0 rfl) ?_
    refine va_get (D := D) (ci := 3) (v := .ref pr) (C := RX5) (T := TX5) (N := 8) hx hb hts hinX50 hown hK.1 hP 0 rfl rfl 0 (by decide) (hts (.fieldLink RX5 10 "RenamingGrid" "present" "LRenamingGrid$State;") (List.mem_of_getElem? (i := 1) rfl)) (fun _ h9 => h9) rfl dX5_stepsOf_14 ?_
    refine va_getN (D := D) (ci := 2) (v := .long (lN (S 4))) (C := RX4) (T := TX4) (N := 8) hx hb hts hinX40 hown hK.1 hP 1 rfl rfl 4 (by decide) (nw6 hK) (fun _ h9 => h9) rfl dX5_stepsOf_17 ?_
    refine lv_iload_n hx hb dX5_stepsOf_20 rfl (lv_at hl 1 rfl) ?_
    refine rdS (nL := 2) hx hb hml hown hts hK hP [.long (lN (S 4)), .int (nI j)] [] (c_X1_countIn l D ca (S 4) j (by omega) (by omega)) gX5_stepsOf_X1_countIn rfl qX1_countIn ⟨Nat.le_of_ble_eq_true rfl, Nat.le_of_ble_eq_true rfl⟩ [] rfl rfl hl.1 (Nat.le_of_ble_eq_true rfl) ⟨Nat.le_of_ble_eq_true rfl, Nat.le_of_ble_eq_true rfl⟩ dX5_stepsOf_21 ?_
    exact rRetI hx hb hr hlocks (congrArg Value.int (by rw [ansP_t hj (by omega)])) dX5_stepsOf_24
  · rw [bN_0] at c8
    refine lv_iconst (v := -1) hx hb dX5_stepsOf_11 (by decide) ?_
    exact rRetI hx hb hr hlocks (congrArg Value.int (by rw [ansP_f (show ¬ inR (S 1) q from c8)])) dX5_stepsOf_12

set_option maxHeartbeats 4000000 in
set_option maxRecDepth 100000 in
theorem c_X5_owner (l : Launch) (D : va_G) (ca : Nat → ClassId) (g pr sc sa sl sch : Nat) (nS : Nat) (vW vT : Value) (S : Nat → Nat) (q : Int32) (hok : SOK S) : RD l D ca yX5_owner wsX5_owner 2 43 [(g, .inr (3, [.ref pr, .ref sc, .ref sa, .int (nI nS), .ref sl, .ref sch, vW, vT])), (pr, .inr (2, cS S))] [.ref g, .int q] (.int ((ansP (nmS S) q (fun j => ownV (S 3) j)))) := by
  refine RD.start (cc := cX5_owner) (maxL := 2) (ret := (some .int)) (by decide) rfl (Nat.le_of_ble_eq_true rfl) ?_
  intro p_ e_ s_ m_ below_ meth_ c_ hx hb hml hr hlocks hown hts hP hK ls hl
  have hown : s_.vm.findClass RX5 = some m_.cls := hown
  have hl : lv_has ls 2 [(0, .ref g), (1, .int q)] := hl
  have hinX50 : ∀ w ∈ wsX50, w ∈ wsX5_owner := fun w h => List.mem_cons_of_mem _ (List.mem_append_left _ (List.mem_append_right _ h))
  have hinX40 : ∀ w ∈ wsX40, w ∈ wsX5_owner := fun w h => List.mem_cons_of_mem _ (List.mem_append_right _ h)
  have hC := hok.2.2.2.1
  have hz := hok.1
  have hn3 := hok.2.1
  have hg := hok.2.2.1
  have hnm := nmS_le hok
  have hct := hok.2.2.2.2.2.2.1
  refine lv_aload_n hx hb dX5_owner_0 rfl (lv_at hl 0 rfl) ?_
  refine va_get (D := D) (ci := 3) (v := .ref pr) (C := RX5) (T := TX5) (N := 8) hx hb hts hinX50 hown hK.1 hP 0 rfl rfl 0 (by decide) (hts (.fieldLink RX5 10 "RenamingGrid" "present" "LRenamingGrid$State;") (List.mem_of_getElem? (i := 1) rfl)) (fun _ h9 => h9) rfl dX5_owner_1 ?_
  refine lv_iload_n hx hb dX5_owner_4 rfl (lv_at hl 1 rfl) ?_
  refine rdV (nL := 2) (ci := 2) (q0 := 1) (cq := (RX4, TX4, 8)) hx hb hml hown hts hK hP [.int q] [] (c_X4_hasSplitter l D ca pr S q (by omega)) gX5_owner_X4_hasSplitter rfl ⟨rfl, qX4_hasSplitter⟩ ⟨Nat.le_of_ble_eq_true rfl, Nat.le_of_ble_eq_true rfl⟩ rfl rfl [1] rfl rfl hl.1 (Nat.le_of_ble_eq_true rfl) ⟨Nat.le_of_ble_eq_true rfl, Nat.le_of_ble_eq_true rfl⟩ dX5_owner_5 ?_
  refine n_if_ne (tgt := 13) hx hb dX5_owner_8 (by decide) (bN_b _) (fun c8 => ?_) (fun c8 => ?_)
  · rw [bN_1] at c8
    obtain ⟨j, hj, rfl⟩ := inR_j (n := (nmS S)) (by omega) c8
    refine lv_aload_n hx hb dX5_owner_13 rfl (lv_at hl 0 rfl) ?_
    refine va_get (D := D) (ci := 3) (v := .ref pr) (C := RX5) (T := TX5) (N := 8) hx hb hts hinX50 hown hK.1 hP 0 rfl rfl 0 (by decide) (hts (.fieldLink RX5 10 "RenamingGrid" "present" "LRenamingGrid$State;") (List.mem_of_getElem? (i := 1) rfl)) (fun _ h9 => h9) rfl dX5_owner_14 ?_
    refine va_getN (D := D) (ci := 2) (v := .long (lN (S 3))) (C := RX4) (T := TX4) (N := 8) hx hb hts hinX40 hown hK.1 hP 1 rfl rfl 3 (by decide) (nw5 hK) (fun _ h9 => h9) rfl dX5_owner_17 ?_
    refine lv_iload_n hx hb dX5_owner_20 rfl (lv_at hl 1 rfl) ?_
    refine rdS (nL := 2) hx hb hml hown hts hK hP [.long (lN (S 3)), .int (nI j)] [] (c_X0_ownerIn l D ca (S 3) j hC (by omega)) gX5_owner_X0_ownerIn rfl qX0_ownerIn ⟨Nat.le_of_ble_eq_true rfl, Nat.le_of_ble_eq_true rfl⟩ [] rfl rfl hl.1 (Nat.le_of_ble_eq_true rfl) ⟨Nat.le_of_ble_eq_true rfl, Nat.le_of_ble_eq_true rfl⟩ dX5_owner_21 ?_
    exact rRetI hx hb hr hlocks (congrArg Value.int (by rw [ansP_t hj (by omega)])) dX5_owner_24
  · rw [bN_0] at c8
    refine lv_iconst (v := -1) hx hb dX5_owner_11 (by decide) ?_
    exact rRetI hx hb hr hlocks (congrArg Value.int (by rw [ansP_f (show ¬ inR (nmS S) q from c8)])) dX5_owner_12

set_option maxHeartbeats 4000000 in
set_option maxRecDepth 100000 in
theorem c_X5_door (l : Launch) (D : va_G) (ca : Nat → ClassId) (g pr sc sa sl sch : Nat) (nS : Nat) (vW vT : Value) (S : Nat → Nat) (q : Int32) (hok : SOK S) : RD l D ca yX5_door wsX5_door 2 42 [(g, .inr (3, [.ref pr, .ref sc, .ref sa, .int (nI nS), .ref sl, .ref sch, vW, vT])), (pr, .inr (2, cS S))] [.ref g, .int q] (.int ((ansP (nmS S) q (fun j => nI (doC (S 3) j))))) := by
  refine RD.start (cc := cX5_door) (maxL := 2) (ret := (some .int)) (by decide) rfl (Nat.le_of_ble_eq_true rfl) ?_
  intro p_ e_ s_ m_ below_ meth_ c_ hx hb hml hr hlocks hown hts hP hK ls hl
  have hown : s_.vm.findClass RX5 = some m_.cls := hown
  have hl : lv_has ls 2 [(0, .ref g), (1, .int q)] := hl
  have hinX50 : ∀ w ∈ wsX50, w ∈ wsX5_door := fun w h => List.mem_cons_of_mem _ (List.mem_append_left _ (List.mem_append_right _ h))
  have hinX40 : ∀ w ∈ wsX40, w ∈ wsX5_door := fun w h => List.mem_cons_of_mem _ (List.mem_append_right _ h)
  have hC := hok.2.2.2.1
  have hz := hok.1
  have hn3 := hok.2.1
  have hg := hok.2.2.1
  have hnm := nmS_le hok
  have hct := hok.2.2.2.2.2.2.1
  refine lv_aload_n hx hb dX5_door_0 rfl (lv_at hl 0 rfl) ?_
  refine va_get (D := D) (ci := 3) (v := .ref pr) (C := RX5) (T := TX5) (N := 8) hx hb hts hinX50 hown hK.1 hP 0 rfl rfl 0 (by decide) (hts (.fieldLink RX5 10 "RenamingGrid" "present" "LRenamingGrid$State;") (List.mem_of_getElem? (i := 1) rfl)) (fun _ h9 => h9) rfl dX5_door_1 ?_
  refine lv_iload_n hx hb dX5_door_4 rfl (lv_at hl 1 rfl) ?_
  refine rdV (nL := 2) (ci := 2) (q0 := 1) (cq := (RX4, TX4, 8)) hx hb hml hown hts hK hP [.int q] [] (c_X4_hasSplitter l D ca pr S q (by omega)) gX5_door_X4_hasSplitter rfl ⟨rfl, qX4_hasSplitter⟩ ⟨Nat.le_of_ble_eq_true rfl, Nat.le_of_ble_eq_true rfl⟩ rfl rfl [1] rfl rfl hl.1 (Nat.le_of_ble_eq_true rfl) ⟨Nat.le_of_ble_eq_true rfl, Nat.le_of_ble_eq_true rfl⟩ dX5_door_5 ?_
  refine n_if_ne (tgt := 13) hx hb dX5_door_8 (by decide) (bN_b _) (fun c8 => ?_) (fun c8 => ?_)
  · rw [bN_1] at c8
    obtain ⟨j, hj, rfl⟩ := inR_j (n := (nmS S)) (by omega) c8
    refine lv_aload_n hx hb dX5_door_13 rfl (lv_at hl 0 rfl) ?_
    refine va_get (D := D) (ci := 3) (v := .ref pr) (C := RX5) (T := TX5) (N := 8) hx hb hts hinX50 hown hK.1 hP 0 rfl rfl 0 (by decide) (hts (.fieldLink RX5 10 "RenamingGrid" "present" "LRenamingGrid$State;") (List.mem_of_getElem? (i := 1) rfl)) (fun _ h9 => h9) rfl dX5_door_14 ?_
    refine va_getN (D := D) (ci := 2) (v := .long (lN (S 3))) (C := RX4) (T := TX4) (N := 8) hx hb hts hinX40 hown hK.1 hP 1 rfl rfl 3 (by decide) (nw5 hK) (fun _ h9 => h9) rfl dX5_door_17 ?_
    refine lv_iload_n hx hb dX5_door_20 rfl (lv_at hl 1 rfl) ?_
    refine rdS (nL := 2) hx hb hml hown hts hK hP [.long (lN (S 3)), .int (nI j)] [] (c_X0_doorIn l D ca (S 3) j hC (by omega)) gX5_door_X0_doorIn rfl qX0_doorIn ⟨Nat.le_of_ble_eq_true rfl, Nat.le_of_ble_eq_true rfl⟩ [] rfl rfl hl.1 (Nat.le_of_ble_eq_true rfl) ⟨Nat.le_of_ble_eq_true rfl, Nat.le_of_ble_eq_true rfl⟩ dX5_door_21 ?_
    exact rRetI hx hb hr hlocks (congrArg Value.int (by rw [ansP_t hj (by omega)])) dX5_door_24
  · rw [bN_0] at c8
    refine lv_iconst (v := -1) hx hb dX5_door_11 (by decide) ?_
    exact rRetI hx hb hr hlocks (congrArg Value.int (by rw [ansP_f (show ¬ inR (nmS S) q from c8)])) dX5_door_12

set_option maxHeartbeats 4000000 in
set_option maxRecDepth 100000 in
theorem c_X5_entered (l : Launch) (D : va_G) (ca : Nat → ClassId) (g pr sc sa sl sch : Nat) (nS : Nat) (vW vT : Value) (S : Nat → Nat) (q : Int32) (hok : SOK S) : RD l D ca yX5_entered wsX5_entered 2 41 [(g, .inr (3, [.ref pr, .ref sc, .ref sa, .int (nI nS), .ref sl, .ref sch, vW, vT])), (pr, .inr (2, cS S))] [.ref g, .int q] (.int ((ansP (nmS S) q (fun j => nI (cnt (S 5) j))))) := by
  refine RD.start (cc := cX5_entered) (maxL := 2) (ret := (some .int)) (by decide) rfl (Nat.le_of_ble_eq_true rfl) ?_
  intro p_ e_ s_ m_ below_ meth_ c_ hx hb hml hr hlocks hown hts hP hK ls hl
  have hown : s_.vm.findClass RX5 = some m_.cls := hown
  have hl : lv_has ls 2 [(0, .ref g), (1, .int q)] := hl
  have hinX50 : ∀ w ∈ wsX50, w ∈ wsX5_entered := fun w h => List.mem_cons_of_mem _ (List.mem_append_left _ (List.mem_append_right _ h))
  have hinX40 : ∀ w ∈ wsX40, w ∈ wsX5_entered := fun w h => List.mem_cons_of_mem _ (List.mem_append_right _ h)
  have hC := hok.2.2.2.1
  have hz := hok.1
  have hn3 := hok.2.1
  have hg := hok.2.2.1
  have hnm := nmS_le hok
  have hct := hok.2.2.2.2.2.2.1
  refine lv_aload_n hx hb dX5_entered_0 rfl (lv_at hl 0 rfl) ?_
  refine va_get (D := D) (ci := 3) (v := .ref pr) (C := RX5) (T := TX5) (N := 8) hx hb hts hinX50 hown hK.1 hP 0 rfl rfl 0 (by decide) (hts (.fieldLink RX5 10 "RenamingGrid" "present" "LRenamingGrid$State;") (List.mem_of_getElem? (i := 1) rfl)) (fun _ h9 => h9) rfl dX5_entered_1 ?_
  refine lv_iload_n hx hb dX5_entered_4 rfl (lv_at hl 1 rfl) ?_
  refine rdV (nL := 2) (ci := 2) (q0 := 1) (cq := (RX4, TX4, 8)) hx hb hml hown hts hK hP [.int q] [] (c_X4_hasSplitter l D ca pr S q (by omega)) gX5_entered_X4_hasSplitter rfl ⟨rfl, qX4_hasSplitter⟩ ⟨Nat.le_of_ble_eq_true rfl, Nat.le_of_ble_eq_true rfl⟩ rfl rfl [1] rfl rfl hl.1 (Nat.le_of_ble_eq_true rfl) ⟨Nat.le_of_ble_eq_true rfl, Nat.le_of_ble_eq_true rfl⟩ dX5_entered_5 ?_
  refine n_if_ne (tgt := 13) hx hb dX5_entered_8 (by decide) (bN_b _) (fun c8 => ?_) (fun c8 => ?_)
  · rw [bN_1] at c8
    obtain ⟨j, hj, rfl⟩ := inR_j (n := (nmS S)) (by omega) c8
    refine lv_aload_n hx hb dX5_entered_13 rfl (lv_at hl 0 rfl) ?_
    refine va_get (D := D) (ci := 3) (v := .ref pr) (C := RX5) (T := TX5) (N := 8) hx hb hts hinX50 hown hK.1 hP 0 rfl rfl 0 (by decide) (hts (.fieldLink RX5 10 "RenamingGrid" "present" "LRenamingGrid$State;") (List.mem_of_getElem? (i := 1) rfl)) (fun _ h9 => h9) rfl dX5_entered_14 ?_
    refine va_getN (D := D) (ci := 2) (v := .long (lN (S 5))) (C := RX4) (T := TX4) (N := 8) hx hb hts hinX40 hown hK.1 hP 1 rfl rfl 5 (by decide) (nw7 hK) (fun _ h9 => h9) rfl dX5_entered_17 ?_
    refine lv_iload_n hx hb dX5_entered_20 rfl (lv_at hl 1 rfl) ?_
    refine rdS (nL := 2) hx hb hml hown hts hK hP [.long (lN (S 5)), .int (nI j)] [] (c_X1_countIn l D ca (S 5) j (by omega) (by omega)) gX5_entered_X1_countIn rfl qX1_countIn ⟨Nat.le_of_ble_eq_true rfl, Nat.le_of_ble_eq_true rfl⟩ [] rfl rfl hl.1 (Nat.le_of_ble_eq_true rfl) ⟨Nat.le_of_ble_eq_true rfl, Nat.le_of_ble_eq_true rfl⟩ dX5_entered_21 ?_
    exact rRetI hx hb hr hlocks (congrArg Value.int (by rw [ansP_t hj (by omega)])) dX5_entered_24
  · rw [bN_0] at c8
    refine lv_iconst (v := -1) hx hb dX5_entered_11 (by decide) ?_
    exact rRetI hx hb hr hlocks (congrArg Value.int (by rw [ansP_f (show ¬ inR (nmS S) q from c8)])) dX5_entered_12

set_option maxHeartbeats 4000000 in
set_option maxRecDepth 100000 in
theorem c_X5_left (l : Launch) (D : va_G) (ca : Nat → ClassId) (g pr sc sa sl sch : Nat) (nS : Nat) (vW vT : Value) (S : Nat → Nat) (q r : Int32) (hok : SOK S) : RD l D ca yX5_left wsX5_left 2 41 [(g, .inr (3, [.ref pr, .ref sc, .ref sa, .int (nI nS), .ref sl, .ref sch, vW, vT])), (pr, .inr (2, cS S))] [.ref g, .int q, .int r] (.int ((ansP (nmS S) q (fun j => if r = 0 then nI (cnt (S 6) j) else if r = nI 1 then nI (cnt (S 7) j) else -1)))) := by
  refine RD.start (cc := cX5_left) (maxL := 3) (ret := (some .int)) (by decide) rfl (Nat.le_of_ble_eq_true rfl) ?_
  intro p_ e_ s_ m_ below_ meth_ c_ hx hb hml hr hlocks hown hts hP hK ls hl
  have hown : s_.vm.findClass RX5 = some m_.cls := hown
  have hl : lv_has ls 3 [(0, .ref g), (1, .int q), (2, .int r)] := hl
  have hinX50 : ∀ w ∈ wsX50, w ∈ wsX5_left := fun w h => List.mem_cons_of_mem _ (List.mem_append_left _ (List.mem_append_right _ h))
  have hinX40 : ∀ w ∈ wsX40, w ∈ wsX5_left := fun w h => List.mem_cons_of_mem _ (List.mem_append_right _ h)
  have hC := hok.2.2.2.1
  have hz := hok.1
  have hn3 := hok.2.1
  have hg := hok.2.2.1
  have hnm := nmS_le hok
  have hct := hok.2.2.2.2.2.2.1
  refine lv_aload_n hx hb dX5_left_0 rfl (lv_at hl 0 rfl) ?_
  refine va_get (D := D) (ci := 3) (v := .ref pr) (C := RX5) (T := TX5) (N := 8) hx hb hts hinX50 hown hK.1 hP 0 rfl rfl 0 (by decide) (hts (.fieldLink RX5 10 "RenamingGrid" "present" "LRenamingGrid$State;") (List.mem_of_getElem? (i := 1) rfl)) (fun _ h9 => h9) rfl dX5_left_1 ?_
  refine lv_iload_n hx hb dX5_left_4 rfl (lv_at hl 1 rfl) ?_
  refine rdV (nL := 3) (ci := 2) (q0 := 1) (cq := (RX4, TX4, 8)) hx hb hml hown hts hK hP [.int q] [] (c_X4_hasSplitter l D ca pr S q (by omega)) gX5_left_X4_hasSplitter rfl ⟨rfl, qX4_hasSplitter⟩ ⟨Nat.le_of_ble_eq_true rfl, Nat.le_of_ble_eq_true rfl⟩ rfl rfl [1] rfl rfl hl.1 (Nat.le_of_ble_eq_true rfl) ⟨Nat.le_of_ble_eq_true rfl, Nat.le_of_ble_eq_true rfl⟩ dX5_left_5 ?_
  refine n_if_ne (tgt := 13) hx hb dX5_left_8 (by decide) (bN_b _) (fun c8 => ?_) (fun c8 => ?_)
  · rw [bN_1] at c8
    obtain ⟨j, hj, rfl⟩ := inR_j (n := (nmS S)) (by omega) c8
    refine lv_iload_n hx hb dX5_left_13 rfl (lv_at hl 2 rfl) ?_
    refine lv_if_ne (tgt := 29) hx hb dX5_left_14 (by decide) (fun c14 => ?_) (fun c14 => ?_)
    · refine lv_iload_n hx hb dX5_left_29 rfl (lv_at hl 2 rfl) ?_
      refine lv_iconst (v := nI 1) hx hb dX5_left_30 (by decide) ?_
      refine lv_icmp_ne (tgt := 46) hx hb dX5_left_31 (by decide) (fun c31 => ?_) (fun c31 => ?_)
      · refine lv_iconst (v := -1) hx hb dX5_left_46 (by decide) ?_
        exact rRetI hx hb hr hlocks (congrArg Value.int (by rw [ansP_t hj (by omega), if_neg c14, if_neg c31])) dX5_left_47
      · refine lv_aload_n hx hb dX5_left_34 rfl (lv_at hl 0 rfl) ?_
        refine va_get (D := D) (ci := 3) (v := .ref pr) (C := RX5) (T := TX5) (N := 8) hx hb hts hinX50 hown hK.1 hP 0 rfl rfl 0 (by decide) (hts (.fieldLink RX5 10 "RenamingGrid" "present" "LRenamingGrid$State;") (List.mem_of_getElem? (i := 1) rfl)) (fun _ h9 => h9) rfl dX5_left_35 ?_
        refine va_getN (D := D) (ci := 2) (v := .long (lN (S 7))) (C := RX4) (T := TX4) (N := 8) hx hb hts hinX40 hown hK.1 hP 1 rfl rfl 7 (by decide) (nw9 hK) (fun _ h9 => h9) rfl dX5_left_38 ?_
        refine lv_iload_n hx hb dX5_left_41 rfl (lv_at hl 1 rfl) ?_
        refine rdS (nL := 3) hx hb hml hown hts hK hP [.long (lN (S 7)), .int (nI j)] [] (c_X1_countIn l D ca (S 7) j (by omega) (by omega)) gX5_left_X1_countIn rfl qX1_countIn ⟨Nat.le_of_ble_eq_true rfl, Nat.le_of_ble_eq_true rfl⟩ [] rfl rfl hl.1 (Nat.le_of_ble_eq_true rfl) ⟨Nat.le_of_ble_eq_true rfl, Nat.le_of_ble_eq_true rfl⟩ dX5_left_42 ?_
        exact rRetI hx hb hr hlocks (congrArg Value.int (by rw [ansP_t hj (by omega), if_neg c14, if_pos c31])) dX5_left_45
    · refine lv_aload_n hx hb dX5_left_17 rfl (lv_at hl 0 rfl) ?_
      refine va_get (D := D) (ci := 3) (v := .ref pr) (C := RX5) (T := TX5) (N := 8) hx hb hts hinX50 hown hK.1 hP 0 rfl rfl 0 (by decide) (hts (.fieldLink RX5 10 "RenamingGrid" "present" "LRenamingGrid$State;") (List.mem_of_getElem? (i := 1) rfl)) (fun _ h9 => h9) rfl dX5_left_18 ?_
      refine va_getN (D := D) (ci := 2) (v := .long (lN (S 6))) (C := RX4) (T := TX4) (N := 8) hx hb hts hinX40 hown hK.1 hP 1 rfl rfl 6 (by decide) (nw8 hK) (fun _ h9 => h9) rfl dX5_left_21 ?_
      refine lv_iload_n hx hb dX5_left_24 rfl (lv_at hl 1 rfl) ?_
      refine rdS (nL := 3) hx hb hml hown hts hK hP [.long (lN (S 6)), .int (nI j)] [] (c_X1_countIn l D ca (S 6) j (by omega) (by omega)) gX5_left_X1_countIn rfl qX1_countIn ⟨Nat.le_of_ble_eq_true rfl, Nat.le_of_ble_eq_true rfl⟩ [] rfl rfl hl.1 (Nat.le_of_ble_eq_true rfl) ⟨Nat.le_of_ble_eq_true rfl, Nat.le_of_ble_eq_true rfl⟩ dX5_left_25 ?_
      exact rRetI hx hb hr hlocks (congrArg Value.int (by rw [ansP_t hj (by omega), if_pos c14])) dX5_left_28
  · rw [bN_0] at c8
    refine lv_iconst (v := -1) hx hb dX5_left_11 (by decide) ?_
    exact rRetI hx hb hr hlocks (congrArg Value.int (by rw [ansP_f (show ¬ inR (nmS S) q from c8)])) dX5_left_12

set_option maxHeartbeats 4000000 in
set_option maxRecDepth 100000 in
theorem c_X5_soloSteps (l : Launch) (D : va_G) (ca : Nat → ClassId) (g pr sc sa sl sch : Nat) (nS : Nat) (vW vT : Value) (S Z : Nat → Nat) (q : Int32) (hok : SOK S) : UP l D ca yX5_soloSteps wsX5_soloSteps 5 132 0 0 [(g, .inr (3, [.ref pr, .ref sc, .ref sa, .int (nI nS), .ref sl, .ref sch, vW, vT])), (pr, .inr (2, cS S)), (sc, .inr (2, cS Z))] [.ref g, .int q] (fun v W1 => v = some (.int (ansP (S 1) q (fun j => nI (runN 16 S j)))) ∧ ∃ Z2 : Nat → Nat, W1 = [(g, .inr (3, [.ref pr, .ref sc, .ref sa, .int (nI nS), .ref sl, .ref sch, vW, vT])), (pr, .inr (2, cS S)), (sc, .inr (2, cS Z2))]) := by
  refine UP.start (cc := cX5_soloSteps) (maxL := 2) (ret := (some .int)) (by decide) rfl (Nat.le_of_ble_eq_true rfl) ?_
  intro p_ e_ s_ m_ below_ meth_ c_ A hx hb hml hr hlocks hin hown hts hK hA hP hD hS ls hl
  have hown : s_.vm.findClass RX5 = some m_.cls := hown
  have hl : lv_has ls 2 [(0, .ref g), (1, .int q)] := hl
  have hinX50 : ∀ w ∈ wsX50, w ∈ wsX5_soloSteps := fun w h => List.mem_cons_of_mem _ (List.mem_append_left _ (List.mem_append_right _ h))
  have hinX40 : ∀ w ∈ wsX40, w ∈ wsX5_soloSteps := fun w h => List.mem_cons_of_mem _ (List.mem_append_right _ h)
  have hC := hok.2.2.2.1
  have hz := hok.1
  have hn3 := hok.2.1
  have hg := hok.2.2.1
  have hnm := nmS_le hok
  have hct := hok.2.2.2.2.2.2.1
  refine lv_aload_n hx hb dX5_soloSteps_0 rfl (lv_at hl 0 rfl) ?_
  refine va_get (D := D) (ci := 3) (v := .ref pr) (C := RX5) (T := TX5) (N := 8) hx hb hts hinX50 hown hK.1 hP 0 rfl rfl 0 (by decide) (hts (.fieldLink RX5 10 "RenamingGrid" "present" "LRenamingGrid$State;") (List.mem_of_getElem? (i := 1) rfl)) (fun _ h9 => h9) rfl dX5_soloSteps_1 ?_
  refine lv_iload_n hx hb dX5_soloSteps_4 rfl (lv_at hl 1 rfl) ?_
  refine rdV (nL := 2) (ci := 2) (q0 := 1) (cq := (RX4, TX4, 8)) hx hb hml hown hts hK hP [.int q] [] (c_X4_hasProcess l D ca pr S q ) gX5_soloSteps_X4_hasProcess rfl ⟨rfl, qX4_hasProcess⟩ ⟨Nat.le_of_ble_eq_true rfl, Nat.le_of_ble_eq_true rfl⟩ rfl rfl [1] rfl rfl hl.1 (Nat.le_of_ble_eq_true rfl) ⟨Nat.le_of_ble_eq_true rfl, Nat.le_of_ble_eq_true rfl⟩ dX5_soloSteps_5 ?_
  refine n_if_ne (tgt := 13) hx hb dX5_soloSteps_8 (by decide) (bN_b _) (fun c8 => ?_) (fun c8 => ?_)
  · rw [bN_1] at c8
    obtain ⟨j, hj, rfl⟩ := inR_j (n := (S 1)) (by omega) c8
    refine lv_aload_n hx hb dX5_soloSteps_13 rfl (lv_at hl 0 rfl) ?_
    refine va_get (D := D) (ci := 3) (v := .ref sc) (C := RX5) (T := TX5) (N := 8) hx hb hts hinX50 hown hK.1 hP 0 rfl rfl 1 (by decide) (hts (.fieldLink RX5 20 "RenamingGrid" "scratch" "LRenamingGrid$State;") (List.mem_of_getElem? (i := 2) rfl)) (fun _ h9 => h9) rfl dX5_soloSteps_14 ?_
    refine lv_aload_n hx hb dX5_soloSteps_17 rfl (lv_at hl 0 rfl) ?_
    refine va_get (D := D) (ci := 3) (v := .ref pr) (C := RX5) (T := TX5) (N := 8) hx hb hts hinX50 hown hK.1 hP 0 rfl rfl 0 (by decide) (hts (.fieldLink RX5 10 "RenamingGrid" "present" "LRenamingGrid$State;") (List.mem_of_getElem? (i := 1) rfl)) (fun _ h9 => h9) rfl dX5_soloSteps_18 ?_
    refine uV (nL := 2) (wr := [(g, .inr (3, [.ref pr, .ref sc, .ref sa, .int (nI nS), .ref sl, .ref sch, vW, vT]))]) (ci := 2) (q0 := 2) (cq := (RX4, TX4, 8)) hx hb hml hown hts hK hA hP hD hS [.ref pr] [] (c_X4_copyFrom l D ca sc pr Z S) gX5_soloSteps_X4_copyFrom rfl ⟨rfl, qX4_copyFrom⟩ ⟨Nat.le_of_ble_eq_true rfl, Nat.le_of_ble_eq_true rfl⟩ rfl rfl [2, 1] [0] rfl rfl (by decide) (by decide) rfl hl.1 (Nat.le_of_ble_eq_true rfl) ⟨Nat.le_of_ble_eq_true rfl, Nat.le_of_ble_eq_true rfl⟩ dX5_soloSteps_21 (oneK (wsN := [(g, .inr (3, [.ref pr, .ref sc, .ref sa, .int (nI nS), .ref sl, .ref sch, vW, vT])), (pr, .inr (2, cS S)), (sc, .inr (2, cS S))]) [0, 2, 1] (by decide) rfl (st1 := []) rfl 0 0 rfl rfl (fun H locs hP hD hS => ?_))
    refine lv_aload_n hx hb dX5_soloSteps_24 rfl (lv_at hl 0 rfl) ?_
    refine va_get (D := D) (ci := 3) (v := .ref sc) (C := RX5) (T := TX5) (N := 8) hx hb hts hinX50 hown hK.1 hP 0 rfl rfl 1 (by decide) (hts (.fieldLink RX5 20 "RenamingGrid" "scratch" "LRenamingGrid$State;") (List.mem_of_getElem? (i := 2) rfl)) (fun _ h9 => h9) rfl dX5_soloSteps_25 ?_
    refine lv_iload_n hx hb dX5_soloSteps_28 rfl (lv_at hl 1 rfl) ?_
    refine lv_bipush (v := nI 16) hx hb dX5_soloSteps_29 (by decide) ?_
    refine uV (nL := 2) (wr := [(g, .inr (3, [.ref pr, .ref sc, .ref sa, .int (nI nS), .ref sl, .ref sch, vW, vT])), (pr, .inr (2, cS S))]) (ci := 2) (q0 := 2) (cq := (RX4, TX4, 8)) hx hb hml hown hts hK hA hP hD hS [.int (nI j), .int (nI 16)] [] (c_X4_advanceUpTo l D ca sc S j 16 hok (by omega) (by decide)) gX5_soloSteps_X4_advanceUpTo rfl ⟨rfl, qX4_advanceUpTo⟩ ⟨Nat.le_of_ble_eq_true rfl, Nat.le_of_ble_eq_true rfl⟩ rfl rfl [2] [0, 1] rfl rfl (by decide) (by decide) rfl hl.1 (Nat.le_of_ble_eq_true rfl) ⟨Nat.le_of_ble_eq_true rfl, Nat.le_of_ble_eq_true rfl⟩ dX5_soloSteps_31 (oneK (wsN := [(g, .inr (3, [.ref pr, .ref sc, .ref sa, .int (nI nS), .ref sl, .ref sch, vW, vT])), (pr, .inr (2, cS S)), (sc, .inr (2, cS ((runS 16 S j))))]) [0, 1, 2] (by decide) rfl (st1 := [.int (nI (runN 16 S j))]) rfl 0 0 rfl rfl (fun H locs hP hD hS => ?_))
    exact uRetI hx hb hr hlocks hK hP hD hS ⟨by rw [ansP_t hj (by omega)], _, rfl⟩ (Nat.le_of_ble_eq_true rfl) (Nat.le_of_ble_eq_true rfl) dX5_soloSteps_34
  · rw [bN_0] at c8
    refine lv_iconst (v := -1) hx hb dX5_soloSteps_11 (by decide) ?_
    exact uRetI hx hb hr hlocks hK hP hD hS ⟨by rw [ansP_f c8], Z, rfl⟩ (Nat.le_of_ble_eq_true rfl) (Nat.le_of_ble_eq_true rfl) dX5_soloSteps_12

set_option maxHeartbeats 4000000 in
set_option maxRecDepth 100000 in
theorem c_X5_soloName (l : Launch) (D : va_G) (ca : Nat → ClassId) (g pr sc sa sl sch : Nat) (nS : Nat) (vW vT : Value) (S Z : Nat → Nat) (q : Int32) (hok : SOK S) : UP l D ca yX5_soloName wsX5_soloName 5 132 0 0 [(g, .inr (3, [.ref pr, .ref sc, .ref sa, .int (nI nS), .ref sl, .ref sch, vW, vT])), (pr, .inr (2, cS S)), (sc, .inr (2, cS Z))] [.ref g, .int q] (fun v W1 => v = some (.int (ansP (S 1) q (fun j => nmC (runS 16 S j 3) j))) ∧ ∃ Z2 : Nat → Nat, W1 = [(g, .inr (3, [.ref pr, .ref sc, .ref sa, .int (nI nS), .ref sl, .ref sch, vW, vT])), (pr, .inr (2, cS S)), (sc, .inr (2, cS Z2))]) := by
  refine UP.start (cc := cX5_soloName) (maxL := 2) (ret := (some .int)) (by decide) rfl (Nat.le_of_ble_eq_true rfl) ?_
  intro p_ e_ s_ m_ below_ meth_ c_ A hx hb hml hr hlocks hin hown hts hK hA hP hD hS ls hl
  have hown : s_.vm.findClass RX5 = some m_.cls := hown
  have hl : lv_has ls 2 [(0, .ref g), (1, .int q)] := hl
  have hinX50 : ∀ w ∈ wsX50, w ∈ wsX5_soloName := fun w h => List.mem_cons_of_mem _ (List.mem_append_left _ (List.mem_append_right _ h))
  have hinX40 : ∀ w ∈ wsX40, w ∈ wsX5_soloName := fun w h => List.mem_cons_of_mem _ (List.mem_append_right _ h)
  have hC := hok.2.2.2.1
  have hz := hok.1
  have hn3 := hok.2.1
  have hg := hok.2.2.1
  have hnm := nmS_le hok
  have hct := hok.2.2.2.2.2.2.1
  refine lv_aload_n hx hb dX5_soloName_0 rfl (lv_at hl 0 rfl) ?_
  refine va_get (D := D) (ci := 3) (v := .ref pr) (C := RX5) (T := TX5) (N := 8) hx hb hts hinX50 hown hK.1 hP 0 rfl rfl 0 (by decide) (hts (.fieldLink RX5 10 "RenamingGrid" "present" "LRenamingGrid$State;") (List.mem_of_getElem? (i := 1) rfl)) (fun _ h9 => h9) rfl dX5_soloName_1 ?_
  refine lv_iload_n hx hb dX5_soloName_4 rfl (lv_at hl 1 rfl) ?_
  refine rdV (nL := 2) (ci := 2) (q0 := 1) (cq := (RX4, TX4, 8)) hx hb hml hown hts hK hP [.int q] [] (c_X4_hasProcess l D ca pr S q ) gX5_soloName_X4_hasProcess rfl ⟨rfl, qX4_hasProcess⟩ ⟨Nat.le_of_ble_eq_true rfl, Nat.le_of_ble_eq_true rfl⟩ rfl rfl [1] rfl rfl hl.1 (Nat.le_of_ble_eq_true rfl) ⟨Nat.le_of_ble_eq_true rfl, Nat.le_of_ble_eq_true rfl⟩ dX5_soloName_5 ?_
  refine n_if_ne (tgt := 13) hx hb dX5_soloName_8 (by decide) (bN_b _) (fun c8 => ?_) (fun c8 => ?_)
  · rw [bN_1] at c8
    obtain ⟨j, hj, rfl⟩ := inR_j (n := (S 1)) (by omega) c8
    refine lv_aload_n hx hb dX5_soloName_13 rfl (lv_at hl 0 rfl) ?_
    refine va_get (D := D) (ci := 3) (v := .ref sc) (C := RX5) (T := TX5) (N := 8) hx hb hts hinX50 hown hK.1 hP 0 rfl rfl 1 (by decide) (hts (.fieldLink RX5 20 "RenamingGrid" "scratch" "LRenamingGrid$State;") (List.mem_of_getElem? (i := 2) rfl)) (fun _ h9 => h9) rfl dX5_soloName_14 ?_
    refine lv_aload_n hx hb dX5_soloName_17 rfl (lv_at hl 0 rfl) ?_
    refine va_get (D := D) (ci := 3) (v := .ref pr) (C := RX5) (T := TX5) (N := 8) hx hb hts hinX50 hown hK.1 hP 0 rfl rfl 0 (by decide) (hts (.fieldLink RX5 10 "RenamingGrid" "present" "LRenamingGrid$State;") (List.mem_of_getElem? (i := 1) rfl)) (fun _ h9 => h9) rfl dX5_soloName_18 ?_
    refine uV (nL := 2) (wr := [(g, .inr (3, [.ref pr, .ref sc, .ref sa, .int (nI nS), .ref sl, .ref sch, vW, vT]))]) (ci := 2) (q0 := 2) (cq := (RX4, TX4, 8)) hx hb hml hown hts hK hA hP hD hS [.ref pr] [] (c_X4_copyFrom l D ca sc pr Z S) gX5_soloName_X4_copyFrom rfl ⟨rfl, qX4_copyFrom⟩ ⟨Nat.le_of_ble_eq_true rfl, Nat.le_of_ble_eq_true rfl⟩ rfl rfl [2, 1] [0] rfl rfl (by decide) (by decide) rfl hl.1 (Nat.le_of_ble_eq_true rfl) ⟨Nat.le_of_ble_eq_true rfl, Nat.le_of_ble_eq_true rfl⟩ dX5_soloName_21 (oneK (wsN := [(g, .inr (3, [.ref pr, .ref sc, .ref sa, .int (nI nS), .ref sl, .ref sch, vW, vT])), (pr, .inr (2, cS S)), (sc, .inr (2, cS S))]) [0, 2, 1] (by decide) rfl (st1 := []) rfl 0 0 rfl rfl (fun H locs hP hD hS => ?_))
    refine lv_aload_n hx hb dX5_soloName_24 rfl (lv_at hl 0 rfl) ?_
    refine va_get (D := D) (ci := 3) (v := .ref sc) (C := RX5) (T := TX5) (N := 8) hx hb hts hinX50 hown hK.1 hP 0 rfl rfl 1 (by decide) (hts (.fieldLink RX5 20 "RenamingGrid" "scratch" "LRenamingGrid$State;") (List.mem_of_getElem? (i := 2) rfl)) (fun _ h9 => h9) rfl dX5_soloName_25 ?_
    refine lv_iload_n hx hb dX5_soloName_28 rfl (lv_at hl 1 rfl) ?_
    refine lv_bipush (v := nI 16) hx hb dX5_soloName_29 (by decide) ?_
    refine uV (nL := 2) (wr := [(g, .inr (3, [.ref pr, .ref sc, .ref sa, .int (nI nS), .ref sl, .ref sch, vW, vT])), (pr, .inr (2, cS S))]) (ci := 2) (q0 := 2) (cq := (RX4, TX4, 8)) hx hb hml hown hts hK hA hP hD hS [.int (nI j), .int (nI 16)] [] (c_X4_advanceUpTo l D ca sc S j 16 hok (by omega) (by decide)) gX5_soloName_X4_advanceUpTo rfl ⟨rfl, qX4_advanceUpTo⟩ ⟨Nat.le_of_ble_eq_true rfl, Nat.le_of_ble_eq_true rfl⟩ rfl rfl [2] [0, 1] rfl rfl (by decide) (by decide) rfl hl.1 (Nat.le_of_ble_eq_true rfl) ⟨Nat.le_of_ble_eq_true rfl, Nat.le_of_ble_eq_true rfl⟩ dX5_soloName_31 (oneK (wsN := [(g, .inr (3, [.ref pr, .ref sc, .ref sa, .int (nI nS), .ref sl, .ref sch, vW, vT])), (pr, .inr (2, cS S)), (sc, .inr (2, cS ((runS 16 S j))))]) [0, 1, 2] (by decide) rfl (st1 := [.int (nI (runN 16 S j))]) rfl 0 0 rfl rfl (fun H locs hP hD hS => ?_))
    refine lv_pop hx hb dX5_soloName_34 rfl ?_
    refine lv_aload_n hx hb dX5_soloName_35 rfl (lv_at hl 0 rfl) ?_
    refine va_get (D := D) (ci := 3) (v := .ref sc) (C := RX5) (T := TX5) (N := 8) hx hb hts hinX50 hown hK.1 hP 0 rfl rfl 1 (by decide) (hts (.fieldLink RX5 20 "RenamingGrid" "scratch" "LRenamingGrid$State;") (List.mem_of_getElem? (i := 2) rfl)) (fun _ h9 => h9) rfl dX5_soloName_36 ?_
    refine va_getN (D := D) (ci := 2) (v := .long (lN (((runS 16 S j)) 3))) (C := RX4) (T := TX4) (N := 8) hx hb hts hinX40 hown hK.1 hP 2 rfl rfl 3 (by decide) (nw5 hK) (fun _ h9 => h9) rfl dX5_soloName_39 ?_
    refine lv_iload_n hx hb dX5_soloName_42 rfl (lv_at hl 1 rfl) ?_
    refine rdS (nL := 2) hx hb hml hown hts hK hP [.long (lN (((runS 16 S j)) 3)), .int (nI j)] [] (c_X0_nameIn l D ca (((runS 16 S j)) 3) j (SOK_run 16 S j hok (by omega)).2.2.2.1 (by omega)) gX5_soloName_X0_nameIn rfl qX0_nameIn ⟨Nat.le_of_ble_eq_true rfl, Nat.le_of_ble_eq_true rfl⟩ [] rfl rfl hl.1 (Nat.le_of_ble_eq_true rfl) ⟨Nat.le_of_ble_eq_true rfl, Nat.le_of_ble_eq_true rfl⟩ dX5_soloName_43 ?_
    exact uRetI hx hb hr hlocks hK hP hD hS ⟨by rw [ansP_t hj (by omega)], _, rfl⟩ (Nat.le_of_ble_eq_true rfl) (Nat.le_of_ble_eq_true rfl) dX5_soloName_46
  · rw [bN_0] at c8
    refine lv_iconst (v := -1) hx hb dX5_soloName_11 (by decide) ?_
    exact uRetI hx hb hr hlocks hK hP hD hS ⟨by rw [ansP_f c8], Z, rfl⟩ (Nat.le_of_ble_eq_true rfl) (Nat.le_of_ble_eq_true rfl) dX5_soloName_12

