set_option maxHeartbeats 2000000 in
set_option maxRecDepth 20000 in
theorem k_violationCount {p : Program} {e : Env} {s : State} {m : MethodId} {below : List Frame} {meth : Method} {c : Code} (l : Launch) {b L : Nat} {xs : Nat → Int32} (hL : L ≤ 2048) (C0 : lw_At p s m meth c b L xs) (D : va_G) (ca : Nat → ClassId) (hK : KK D ca s) (x mm k : Nat) (hk : 4 * k + 4 ≤ L) (ih : LGo p l e s m below meth c b D ca x mm (k + 1)) (S : Nat → Nat) (n : Nat) (U : Nat → Nat → Nat) (bb : Nat → Nat) (V : Nat → Nat → Nat) (LL : Nat) (T : Nat → Nat) (e1 w : Nat) (hσ : SG S n U bb V LL T e1) (WX WM : va_W) (hX : XI ca x S n U bb V LL T e1 w WX) (hM : MI ca mm S n U bb V LL T e1 WM) (hw : w ≤ 1) (cells slots : Nat) (hc : cells + (513 - k) + 6 * (1 - w) ≤ 672241) (hs : slots + 8 * (513 - k) + 20263 * (1 - w) ≤ 7085524) (H : Heap) (locs : List Loc) (ls : Array Slot) (hP : va_P D vwCl (WX ++ WM) H) (hD : va_D (fun q : Nat => s.heap.size ≤ q) (WX ++ WM)) (hS : va_S (fun q : Nat => s.heap.size ≤ q) s.heap H locs) (hl : lv_has ls 4 [(3, .int (nI (4 * k))), (0, .ref b), (1, .ref x), (2, .ref mm)]) : W p l e room_1 s m #[Value.ref b] below meth c H locs cells slots (lw_Z below #[Value.ref b] s) (F0 m 594 ls []) := by
  obtain ⟨hx, hb, hr, hml, hown, hts0, hXs, hbl, hlocks, hgv⟩ := id C0
  have hts : ∀ w ∈ wsL_law, w.before #[Value.ref b] s = true := fun w h => hts0 w (wsL_law_in w h)
  have hA : ∀ q : Nat, s.heap.size ≤ q → (fun q : Nat => s.heap.size ≤ q) q := fun _ h => h
  have hbA : ¬ (fun q : Nat => s.heap.size ≤ q) b := Nat.not_le.mpr hbl
  have hk5 : k < 513 := by omega
  obtain ⟨fs, hfs⟩ := XI_0 hX WM
  refine lv_aload_n hx hb dL_law_594 rfl (lv_at hl 2 rfl) ?_
  rcases (show e1 = 0 ∨ e1 = 1 by have := hσ.2.2.2.2.2.2.1; omega) with he | he
  · refine uVw (nL := 4) (ci := 3) (q0 := 0) (cq := (RX5, TX5, 8)) hx hb hml hown hts hK hA hP hD hS [] [] (UP.tail (x_violationCount_n l D ca x S n U bb V LL T e1 w hσ he WX hX) WM) gL_law_X5_violationCount rfl ⟨rfl, qX5_violationCount⟩ ⟨Nat.le_of_ble_eq_true rfl, Nat.le_of_ble_eq_true rfl⟩ rfl hfs rfl hl.1 (Nat.le_of_ble_eq_true rfl) ⟨by show cells + 0 ≤ 672241; omega, by show slots + 0 ≤ 7085524; omega⟩ dL_law_595 (fun v1 W1 H locs hO hP hD hS => ?_)
    obtain ⟨WX2, hO, rfl⟩ := hO
    obtain ⟨rfl, hX2⟩ := hO
    refine W.eq (g2 := F0 m 598 ls [.int (-2)]) rfl ?_
    obtain ⟨hP, hD⟩ := PD_swap hP hD
    obtain ⟨fm, hfm⟩ := MI_0 hM WX2
    refine lv_aload_n hx hb dL_law_598 rfl (lv_at hl 3 rfl) ?_
    refine uVw (nL := 4) (ci := 4) (q0 := 0) (cq := (RX6, TX6, 34)) hx hb hml hown hts hK hA hP hD hS [] [.int (-2)] (UP.tail (y_violationCount_n l D ca mm S n U bb V LL T e1 hσ he WM hM) WX2) gL_law_X6_violationCount rfl ⟨rfl, qX6_violationCount⟩ ⟨Nat.le_of_ble_eq_true rfl, Nat.le_of_ble_eq_true rfl⟩ rfl hfm rfl hl.1 (Nat.le_of_ble_eq_true rfl) ⟨by show cells + 0 + 0 ≤ 672241; omega, by show slots + 0 + 0 ≤ 7085524; omega⟩ dL_law_599 (fun v1 W1 H locs hO hP hD hS => ?_)
    obtain ⟨WM2, hO, rfl⟩ := hO
    obtain ⟨rfl, hM2⟩ := hO
    refine W.eq (g2 := F0 m 602 ls [.int (-2), .int (-2)]) rfl ?_
    obtain ⟨hP, hD⟩ := PD_swap hP hD
    refine lv_icmp_eq (tgt := 761) hx hb dL_law_602 (by decide) (fun _ => ?_) (fun c1 => absurd rfl c1)
    exact k_next l hL C0 D ca hK x mm k hk ih S n U bb V LL T e1 w (hσ) WX2 WM2 hX2 hM2 hw _ _ (by omega) (by omega) H locs ls hP hD hS hl
  · refine uVw (nL := 4) (ci := 3) (q0 := 0) (cq := (RX5, TX5, 8)) hx hb hml hown hts hK hA hP hD hS [] [] (UP.tail (x_violationCount_y l D ca x S n U bb V LL T e1 w hσ he WX hX) WM) gL_law_X5_violationCount rfl ⟨rfl, qX5_violationCount⟩ ⟨Nat.le_of_ble_eq_true rfl, Nat.le_of_ble_eq_true rfl⟩ rfl hfs rfl hl.1 (Nat.le_of_ble_eq_true rfl) ⟨by show cells + 0 ≤ 672241; omega, by show slots + 0 ≤ 7085524; omega⟩ dL_law_595 (fun v1 W1 H locs hO hP hD hS => ?_)
    obtain ⟨WX2, hO, rfl⟩ := hO
    obtain ⟨rfl, hX2⟩ := hO
    refine W.eq (g2 := F0 m 598 ls [.int (nI (viC (BF S) (S 1) (BF S).length))]) rfl ?_
    obtain ⟨hP, hD⟩ := PD_swap hP hD
    obtain ⟨fm, hfm⟩ := MI_0 hM WX2
    refine lv_aload_n hx hb dL_law_598 rfl (lv_at hl 3 rfl) ?_
    refine uVw (nL := 4) (ci := 4) (q0 := 0) (cq := (RX6, TX6, 34)) hx hb hml hown hts hK hA hP hD hS [] [.int (nI (viC (BF S) (S 1) (BF S).length))] (UP.tail (y_violationCount_y l D ca mm S n U bb V LL T e1 hσ he WM hM) WX2) gL_law_X6_violationCount rfl ⟨rfl, qX6_violationCount⟩ ⟨Nat.le_of_ble_eq_true rfl, Nat.le_of_ble_eq_true rfl⟩ rfl hfm rfl hl.1 (Nat.le_of_ble_eq_true rfl) ⟨by show cells + 0 + 0 ≤ 672241; omega, by show slots + 0 + 0 ≤ 7085524; omega⟩ dL_law_599 (fun v1 W1 H locs hO hP hD hS => ?_)
    obtain ⟨WM2, hO, rfl⟩ := hO
    obtain ⟨rfl, hM2⟩ := hO
    refine W.eq (g2 := F0 m 602 ls [.int (nI (viC (BF S) (S 1) (BF S).length)), .int (nI (viC (BF S) (S 1) (BF S).length))]) rfl ?_
    obtain ⟨hP, hD⟩ := PD_swap hP hD
    refine lv_icmp_eq (tgt := 761) hx hb dL_law_602 (by decide) (fun _ => ?_) (fun c1 => absurd rfl c1)
    exact k_next l hL C0 D ca hK x mm k hk ih S n U bb V LL T e1 w (hσ) WX2 WM2 hX2 hM2 hw _ _ (by omega) (by omega) H locs ls hP hD hS hl

set_option maxHeartbeats 2000000 in
set_option maxRecDepth 20000 in
theorem k_violationStep {p : Program} {e : Env} {s : State} {m : MethodId} {below : List Frame} {meth : Method} {c : Code} (l : Launch) {b L : Nat} {xs : Nat → Int32} (hL : L ≤ 2048) (C0 : lw_At p s m meth c b L xs) (D : va_G) (ca : Nat → ClassId) (hK : KK D ca s) (x mm k : Nat) (hk : 4 * k + 4 ≤ L) (ih : LGo p l e s m below meth c b D ca x mm (k + 1)) (S : Nat → Nat) (n : Nat) (U : Nat → Nat → Nat) (bb : Nat → Nat) (V : Nat → Nat → Nat) (LL : Nat) (T : Nat → Nat) (e1 w : Nat) (hσ : SG S n U bb V LL T e1) (WX WM : va_W) (hX : XI ca x S n U bb V LL T e1 w WX) (hM : MI ca mm S n U bb V LL T e1 WM) (hw : w ≤ 1) (cells slots : Nat) (hc : cells + (513 - k) + 6 * (1 - w) ≤ 672241) (hs : slots + 8 * (513 - k) + 20263 * (1 - w) ≤ 7085524) (H : Heap) (locs : List Loc) (ls : Array Slot) (hP : va_P D vwCl (WX ++ WM) H) (hD : va_D (fun q : Nat => s.heap.size ≤ q) (WX ++ WM)) (hS : va_S (fun q : Nat => s.heap.size ≤ q) s.heap H locs) (hl : lv_has ls 4 [(3, .int (nI (4 * k))), (0, .ref b), (1, .ref x), (2, .ref mm)]) : W p l e room_1 s m #[Value.ref b] below meth c H locs cells slots (lw_Z below #[Value.ref b] s) (F0 m 607 ls []) := by
  obtain ⟨hx, hb, hr, hml, hown, hts0, hXs, hbl, hlocks, hgv⟩ := id C0
  have hts : ∀ w ∈ wsL_law, w.before #[Value.ref b] s = true := fun w h => hts0 w (wsL_law_in w h)
  have hA : ∀ q : Nat, s.heap.size ≤ q → (fun q : Nat => s.heap.size ≤ q) q := fun _ h => h
  have hbA : ¬ (fun q : Nat => s.heap.size ≤ q) b := Nat.not_le.mpr hbl
  have hk5 : k < 513 := by omega
  obtain ⟨fs, hfs⟩ := XI_0 hX WM
  refine lv_aload_n hx hb dL_law_607 rfl (lv_at hl 2 rfl) ?_
  refine lv_aload_n hx hb dL_law_608 rfl (lv_at hl 1 rfl) ?_
  refine lv_iload_n hx hb dL_law_609 rfl (lv_at hl 0 rfl) ?_
  refine lv_iconst (v := nI 1) hx hb dL_law_610 (by decide) ?_
  refine n_iadd hx hb dL_law_611 ?_
  refine va_sld hx hb hXs hbl hbA hS (vp_in_nI (by omega) (by omega)) dL_law_612 ?_
  obtain ⟨a1, ha1⟩ : ∃ z, z = xs (nI (4 * k + 1)).toNatClampNeg := ⟨_, rfl⟩
  rw [← ha1]
  rcases (show e1 = 0 ∨ e1 = 1 by have := hσ.2.2.2.2.2.2.1; omega) with he | he
  · refine uVw (nL := 4) (ci := 3) (q0 := 0) (cq := (RX5, TX5, 8)) hx hb hml hown hts hK hA hP hD hS [.int a1] [] (UP.tail (x_violationStep_n l D ca x S n U bb V LL T e1 w hσ a1 he WX hX) WM) gL_law_X5_violationStep rfl ⟨rfl, qX5_violationStep⟩ ⟨Nat.le_of_ble_eq_true rfl, Nat.le_of_ble_eq_true rfl⟩ rfl hfs rfl hl.1 (Nat.le_of_ble_eq_true rfl) ⟨by show cells + 0 ≤ 672241; omega, by show slots + 0 ≤ 7085524; omega⟩ dL_law_613 (fun v1 W1 H locs hO hP hD hS => ?_)
    obtain ⟨WX2, hO, rfl⟩ := hO
    obtain ⟨rfl, hX2⟩ := hO
    refine W.eq (g2 := F0 m 616 ls [.int (if a1 < 0 then -1 else -2)]) rfl ?_
    obtain ⟨hP, hD⟩ := PD_swap hP hD
    obtain ⟨fm, hfm⟩ := MI_0 hM WX2
    refine lv_aload_n hx hb dL_law_616 rfl (lv_at hl 3 rfl) ?_
    refine lv_aload_n hx hb dL_law_617 rfl (lv_at hl 1 rfl) ?_
    refine lv_iload_n hx hb dL_law_618 rfl (lv_at hl 0 rfl) ?_
    refine lv_iconst (v := nI 1) hx hb dL_law_619 (by decide) ?_
    refine n_iadd hx hb dL_law_620 ?_
    refine va_sld hx hb hXs hbl hbA hS (vp_in_nI (by omega) (by omega)) dL_law_621 ?_
    rw [← ha1]
    refine uVw (nL := 4) (ci := 4) (q0 := 0) (cq := (RX6, TX6, 34)) hx hb hml hown hts hK hA hP hD hS [.int a1] [.int (if a1 < 0 then -1 else -2)] (UP.tail (y_violationStep_n l D ca mm S n U bb V LL T e1 hσ a1 he WM hM) WX2) gL_law_X6_violationStep rfl ⟨rfl, qX6_violationStep⟩ ⟨Nat.le_of_ble_eq_true rfl, Nat.le_of_ble_eq_true rfl⟩ rfl hfm rfl hl.1 (Nat.le_of_ble_eq_true rfl) ⟨by show cells + 0 + 0 ≤ 672241; omega, by show slots + 0 + 0 ≤ 7085524; omega⟩ dL_law_622 (fun v1 W1 H locs hO hP hD hS => ?_)
    obtain ⟨WM2, hO, rfl⟩ := hO
    obtain ⟨rfl, hM2⟩ := hO
    refine W.eq (g2 := F0 m 625 ls [.int (if a1 < 0 then -1 else -2), .int (if a1 < 0 then -1 else -2)]) rfl ?_
    obtain ⟨hP, hD⟩ := PD_swap hP hD
    refine lv_icmp_eq (tgt := 761) hx hb dL_law_625 (by decide) (fun _ => ?_) (fun c1 => absurd rfl c1)
    exact k_next l hL C0 D ca hK x mm k hk ih S n U bb V LL T e1 w (hσ) WX2 WM2 hX2 hM2 hw _ _ (by omega) (by omega) H locs ls hP hD hS hl
  · refine uVw (nL := 4) (ci := 3) (q0 := 0) (cq := (RX5, TX5, 8)) hx hb hml hown hts hK hA hP hD hS [.int a1] [] (UP.tail (x_violationStep_y l D ca x S n U bb V LL T e1 w hσ a1 he WX hX) WM) gL_law_X5_violationStep rfl ⟨rfl, qX5_violationStep⟩ ⟨Nat.le_of_ble_eq_true rfl, Nat.le_of_ble_eq_true rfl⟩ rfl hfs rfl hl.1 (Nat.le_of_ble_eq_true rfl) ⟨by show cells + 0 ≤ 672241; omega, by show slots + 0 ≤ 7085524; omega⟩ dL_law_613 (fun v1 W1 H locs hO hP hD hS => ?_)
    obtain ⟨WX2, hO, rfl⟩ := hO
    obtain ⟨rfl, hX2⟩ := hO
    refine W.eq (g2 := F0 m 616 ls [.int (ansVS S a1)]) rfl ?_
    obtain ⟨hP, hD⟩ := PD_swap hP hD
    obtain ⟨fm, hfm⟩ := MI_0 hM WX2
    refine lv_aload_n hx hb dL_law_616 rfl (lv_at hl 3 rfl) ?_
    refine lv_aload_n hx hb dL_law_617 rfl (lv_at hl 1 rfl) ?_
    refine lv_iload_n hx hb dL_law_618 rfl (lv_at hl 0 rfl) ?_
    refine lv_iconst (v := nI 1) hx hb dL_law_619 (by decide) ?_
    refine n_iadd hx hb dL_law_620 ?_
    refine va_sld hx hb hXs hbl hbA hS (vp_in_nI (by omega) (by omega)) dL_law_621 ?_
    rw [← ha1]
    refine uVw (nL := 4) (ci := 4) (q0 := 0) (cq := (RX6, TX6, 34)) hx hb hml hown hts hK hA hP hD hS [.int a1] [.int (ansVS S a1)] (UP.tail (y_violationStep_y l D ca mm S n U bb V LL T e1 hσ a1 he WM hM) WX2) gL_law_X6_violationStep rfl ⟨rfl, qX6_violationStep⟩ ⟨Nat.le_of_ble_eq_true rfl, Nat.le_of_ble_eq_true rfl⟩ rfl hfm rfl hl.1 (Nat.le_of_ble_eq_true rfl) ⟨by show cells + 0 + 0 ≤ 672241; omega, by show slots + 0 + 0 ≤ 7085524; omega⟩ dL_law_622 (fun v1 W1 H locs hO hP hD hS => ?_)
    obtain ⟨WM2, hO, rfl⟩ := hO
    obtain ⟨rfl, hM2⟩ := hO
    refine W.eq (g2 := F0 m 625 ls [.int (ansVS S a1), .int (ansVS S a1)]) rfl ?_
    obtain ⟨hP, hD⟩ := PD_swap hP hD
    refine lv_icmp_eq (tgt := 761) hx hb dL_law_625 (by decide) (fun _ => ?_) (fun c1 => absurd rfl c1)
    exact k_next l hL C0 D ca hK x mm k hk ih S n U bb V LL T e1 w (hσ) WX2 WM2 hX2 hM2 hw _ _ (by omega) (by omega) H locs ls hP hD hS hl

set_option maxHeartbeats 2000000 in
set_option maxRecDepth 20000 in
theorem k_greatestDepth {p : Program} {e : Env} {s : State} {m : MethodId} {below : List Frame} {meth : Method} {c : Code} (l : Launch) {b L : Nat} {xs : Nat → Int32} (hL : L ≤ 2048) (C0 : lw_At p s m meth c b L xs) (D : va_G) (ca : Nat → ClassId) (hK : KK D ca s) (x mm k : Nat) (hk : 4 * k + 4 ≤ L) (ih : LGo p l e s m below meth c b D ca x mm (k + 1)) (S : Nat → Nat) (n : Nat) (U : Nat → Nat → Nat) (bb : Nat → Nat) (V : Nat → Nat → Nat) (LL : Nat) (T : Nat → Nat) (e1 w : Nat) (hσ : SG S n U bb V LL T e1) (WX WM : va_W) (hX : XI ca x S n U bb V LL T e1 w WX) (hM : MI ca mm S n U bb V LL T e1 WM) (hw : w ≤ 1) (cells slots : Nat) (hc : cells + (513 - k) + 6 * (1 - w) ≤ 672241) (hs : slots + 8 * (513 - k) + 20263 * (1 - w) ≤ 7085524) (H : Heap) (locs : List Loc) (ls : Array Slot) (hP : va_P D vwCl (WX ++ WM) H) (hD : va_D (fun q : Nat => s.heap.size ≤ q) (WX ++ WM)) (hS : va_S (fun q : Nat => s.heap.size ≤ q) s.heap H locs) (hl : lv_has ls 4 [(3, .int (nI (4 * k))), (0, .ref b), (1, .ref x), (2, .ref mm)]) : W p l e room_1 s m #[Value.ref b] below meth c H locs cells slots (lw_Z below #[Value.ref b] s) (F0 m 630 ls []) := by
  obtain ⟨hx, hb, hr, hml, hown, hts0, hXs, hbl, hlocks, hgv⟩ := id C0
  have hts : ∀ w ∈ wsL_law, w.before #[Value.ref b] s = true := fun w h => hts0 w (wsL_law_in w h)
  have hA : ∀ q : Nat, s.heap.size ≤ q → (fun q : Nat => s.heap.size ≤ q) q := fun _ h => h
  have hbA : ¬ (fun q : Nat => s.heap.size ≤ q) b := Nat.not_le.mpr hbl
  have hk5 : k < 513 := by omega
  obtain ⟨fs, hfs⟩ := XI_0 hX WM
  refine lv_aload_n hx hb dL_law_630 rfl (lv_at hl 2 rfl) ?_
  rcases (show e1 = 0 ∨ e1 = 1 by have := hσ.2.2.2.2.2.2.1; omega) with he | he
  · refine uVw (nL := 4) (ci := 3) (q0 := 0) (cq := (RX5, TX5, 8)) hx hb hml hown hts hK hA hP hD hS [] [] (UP.tail (x_greatestDepth_n l D ca x S n U bb V LL T e1 w hσ he WX hX) WM) gL_law_X5_greatestDepth rfl ⟨rfl, qX5_greatestDepth⟩ ⟨Nat.le_of_ble_eq_true rfl, Nat.le_of_ble_eq_true rfl⟩ rfl hfs rfl hl.1 (Nat.le_of_ble_eq_true rfl) ⟨by show cells + 0 ≤ 672241; omega, by show slots + 0 ≤ 7085524; omega⟩ dL_law_631 (fun v1 W1 H locs hO hP hD hS => ?_)
    obtain ⟨WX2, hO, rfl⟩ := hO
    obtain ⟨rfl, hX2⟩ := hO
    refine W.eq (g2 := F0 m 634 ls [.int (-2)]) rfl ?_
    obtain ⟨hP, hD⟩ := PD_swap hP hD
    obtain ⟨fm, hfm⟩ := MI_0 hM WX2
    refine lv_aload_n hx hb dL_law_634 rfl (lv_at hl 3 rfl) ?_
    refine uVw (nL := 4) (ci := 4) (q0 := 0) (cq := (RX6, TX6, 34)) hx hb hml hown hts hK hA hP hD hS [] [.int (-2)] (UP.tail (y_greatestDepth_n l D ca mm S n U bb V LL T e1 hσ he WM hM) WX2) gL_law_X6_greatestDepth rfl ⟨rfl, qX6_greatestDepth⟩ ⟨Nat.le_of_ble_eq_true rfl, Nat.le_of_ble_eq_true rfl⟩ rfl hfm rfl hl.1 (Nat.le_of_ble_eq_true rfl) ⟨by show cells + 0 + 0 ≤ 672241; omega, by show slots + 0 + 0 ≤ 7085524; omega⟩ dL_law_635 (fun v1 W1 H locs hO hP hD hS => ?_)
    obtain ⟨WM2, hO, rfl⟩ := hO
    obtain ⟨rfl, hM2⟩ := hO
    refine W.eq (g2 := F0 m 638 ls [.int (-2), .int (-2)]) rfl ?_
    obtain ⟨hP, hD⟩ := PD_swap hP hD
    refine lv_icmp_eq (tgt := 761) hx hb dL_law_638 (by decide) (fun _ => ?_) (fun c1 => absurd rfl c1)
    exact k_next l hL C0 D ca hK x mm k hk ih S n U bb V LL T e1 w (hσ) WX2 WM2 hX2 hM2 hw _ _ (by omega) (by omega) H locs ls hP hD hS hl
  · refine uVw (nL := 4) (ci := 3) (q0 := 0) (cq := (RX5, TX5, 8)) hx hb hml hown hts hK hA hP hD hS [] [] (UP.tail (x_greatestDepth_y l D ca x S n U bb V LL T e1 w hσ he WX hX) WM) gL_law_X5_greatestDepth rfl ⟨rfl, qX5_greatestDepth⟩ ⟨Nat.le_of_ble_eq_true rfl, Nat.le_of_ble_eq_true rfl⟩ rfl hfs rfl hl.1 (Nat.le_of_ble_eq_true rfl) ⟨by show cells + 0 ≤ 672241; omega, by show slots + 0 ≤ 7085524; omega⟩ dL_law_631 (fun v1 W1 H locs hO hP hD hS => ?_)
    obtain ⟨WX2, hO, rfl⟩ := hO
    obtain ⟨rfl, hX2⟩ := hO
    refine W.eq (g2 := F0 m 634 ls [.int (nI (dep (BF S) ((BF S).length - 1)))]) rfl ?_
    obtain ⟨hP, hD⟩ := PD_swap hP hD
    obtain ⟨fm, hfm⟩ := MI_0 hM WX2
    refine lv_aload_n hx hb dL_law_634 rfl (lv_at hl 3 rfl) ?_
    refine uVw (nL := 4) (ci := 4) (q0 := 0) (cq := (RX6, TX6, 34)) hx hb hml hown hts hK hA hP hD hS [] [.int (nI (dep (BF S) ((BF S).length - 1)))] (UP.tail (y_greatestDepth_y l D ca mm S n U bb V LL T e1 hσ he WM hM) WX2) gL_law_X6_greatestDepth rfl ⟨rfl, qX6_greatestDepth⟩ ⟨Nat.le_of_ble_eq_true rfl, Nat.le_of_ble_eq_true rfl⟩ rfl hfm rfl hl.1 (Nat.le_of_ble_eq_true rfl) ⟨by show cells + 0 + 0 ≤ 672241; omega, by show slots + 0 + 0 ≤ 7085524; omega⟩ dL_law_635 (fun v1 W1 H locs hO hP hD hS => ?_)
    obtain ⟨WM2, hO, rfl⟩ := hO
    obtain ⟨rfl, hM2⟩ := hO
    refine W.eq (g2 := F0 m 638 ls [.int (nI (dep (BF S) ((BF S).length - 1))), .int (nI (dep (BF S) ((BF S).length - 1)))]) rfl ?_
    obtain ⟨hP, hD⟩ := PD_swap hP hD
    refine lv_icmp_eq (tgt := 761) hx hb dL_law_638 (by decide) (fun _ => ?_) (fun c1 => absurd rfl c1)
    exact k_next l hL C0 D ca hK x mm k hk ih S n U bb V LL T e1 w (hσ) WX2 WM2 hX2 hM2 hw _ _ (by omega) (by omega) H locs ls hP hD hS hl

set_option maxHeartbeats 2000000 in
set_option maxRecDepth 20000 in
theorem k_greatestName {p : Program} {e : Env} {s : State} {m : MethodId} {below : List Frame} {meth : Method} {c : Code} (l : Launch) {b L : Nat} {xs : Nat → Int32} (hL : L ≤ 2048) (C0 : lw_At p s m meth c b L xs) (D : va_G) (ca : Nat → ClassId) (hK : KK D ca s) (x mm k : Nat) (hk : 4 * k + 4 ≤ L) (ih : LGo p l e s m below meth c b D ca x mm (k + 1)) (S : Nat → Nat) (n : Nat) (U : Nat → Nat → Nat) (bb : Nat → Nat) (V : Nat → Nat → Nat) (LL : Nat) (T : Nat → Nat) (e1 w : Nat) (hσ : SG S n U bb V LL T e1) (WX WM : va_W) (hX : XI ca x S n U bb V LL T e1 w WX) (hM : MI ca mm S n U bb V LL T e1 WM) (hw : w ≤ 1) (cells slots : Nat) (hc : cells + (513 - k) + 6 * (1 - w) ≤ 672241) (hs : slots + 8 * (513 - k) + 20263 * (1 - w) ≤ 7085524) (H : Heap) (locs : List Loc) (ls : Array Slot) (hP : va_P D vwCl (WX ++ WM) H) (hD : va_D (fun q : Nat => s.heap.size ≤ q) (WX ++ WM)) (hS : va_S (fun q : Nat => s.heap.size ≤ q) s.heap H locs) (hl : lv_has ls 4 [(3, .int (nI (4 * k))), (0, .ref b), (1, .ref x), (2, .ref mm)]) : W p l e room_1 s m #[Value.ref b] below meth c H locs cells slots (lw_Z below #[Value.ref b] s) (F0 m 643 ls []) := by
  obtain ⟨hx, hb, hr, hml, hown, hts0, hXs, hbl, hlocks, hgv⟩ := id C0
  have hts : ∀ w ∈ wsL_law, w.before #[Value.ref b] s = true := fun w h => hts0 w (wsL_law_in w h)
  have hA : ∀ q : Nat, s.heap.size ≤ q → (fun q : Nat => s.heap.size ≤ q) q := fun _ h => h
  have hbA : ¬ (fun q : Nat => s.heap.size ≤ q) b := Nat.not_le.mpr hbl
  have hk5 : k < 513 := by omega
  obtain ⟨fs, hfs⟩ := XI_0 hX WM
  refine lv_aload_n hx hb dL_law_643 rfl (lv_at hl 2 rfl) ?_
  rcases (show e1 = 0 ∨ e1 = 1 by have := hσ.2.2.2.2.2.2.1; omega) with he | he
  · refine uVw (nL := 4) (ci := 3) (q0 := 0) (cq := (RX5, TX5, 8)) hx hb hml hown hts hK hA hP hD hS [] [] (UP.tail (x_greatestName_n l D ca x S n U bb V LL T e1 w hσ he WX hX) WM) gL_law_X5_greatestName rfl ⟨rfl, qX5_greatestName⟩ ⟨Nat.le_of_ble_eq_true rfl, Nat.le_of_ble_eq_true rfl⟩ rfl hfs rfl hl.1 (Nat.le_of_ble_eq_true rfl) ⟨by show cells + 0 ≤ 672241; omega, by show slots + 0 ≤ 7085524; omega⟩ dL_law_644 (fun v1 W1 H locs hO hP hD hS => ?_)
    obtain ⟨WX2, hO, rfl⟩ := hO
    obtain ⟨rfl, hX2⟩ := hO
    refine W.eq (g2 := F0 m 647 ls [.int (-2)]) rfl ?_
    obtain ⟨hP, hD⟩ := PD_swap hP hD
    obtain ⟨fm, hfm⟩ := MI_0 hM WX2
    refine lv_aload_n hx hb dL_law_647 rfl (lv_at hl 3 rfl) ?_
    refine uVw (nL := 4) (ci := 4) (q0 := 0) (cq := (RX6, TX6, 34)) hx hb hml hown hts hK hA hP hD hS [] [.int (-2)] (UP.tail (y_greatestName_n l D ca mm S n U bb V LL T e1 hσ he WM hM) WX2) gL_law_X6_greatestName rfl ⟨rfl, qX6_greatestName⟩ ⟨Nat.le_of_ble_eq_true rfl, Nat.le_of_ble_eq_true rfl⟩ rfl hfm rfl hl.1 (Nat.le_of_ble_eq_true rfl) ⟨by show cells + 0 + 0 ≤ 672241; omega, by show slots + 0 + 0 ≤ 7085524; omega⟩ dL_law_648 (fun v1 W1 H locs hO hP hD hS => ?_)
    obtain ⟨WM2, hO, rfl⟩ := hO
    obtain ⟨rfl, hM2⟩ := hO
    refine W.eq (g2 := F0 m 651 ls [.int (-2), .int (-2)]) rfl ?_
    obtain ⟨hP, hD⟩ := PD_swap hP hD
    refine lv_icmp_eq (tgt := 761) hx hb dL_law_651 (by decide) (fun _ => ?_) (fun c1 => absurd rfl c1)
    exact k_next l hL C0 D ca hK x mm k hk ih S n U bb V LL T e1 w (hσ) WX2 WM2 hX2 hM2 hw _ _ (by omega) (by omega) H locs ls hP hD hS hl
  · refine uVw (nL := 4) (ci := 3) (q0 := 0) (cq := (RX5, TX5, 8)) hx hb hml hown hts hK hA hP hD hS [] [] (UP.tail (x_greatestName_y l D ca x S n U bb V LL T e1 w hσ he WX hX) WM) gL_law_X5_greatestName rfl ⟨rfl, qX5_greatestName⟩ ⟨Nat.le_of_ble_eq_true rfl, Nat.le_of_ble_eq_true rfl⟩ rfl hfs rfl hl.1 (Nat.le_of_ble_eq_true rfl) ⟨by show cells + 0 ≤ 672241; omega, by show slots + 0 ≤ 7085524; omega⟩ dL_law_644 (fun v1 W1 H locs hO hP hD hS => ?_)
    obtain ⟨WX2, hO, rfl⟩ := hO
    obtain ⟨rfl, hX2⟩ := hO
    refine W.eq (g2 := F0 m 647 ls [.int (n9 (hiB (BF S) (S 1) (BF S).length))]) rfl ?_
    obtain ⟨hP, hD⟩ := PD_swap hP hD
    obtain ⟨fm, hfm⟩ := MI_0 hM WX2
    refine lv_aload_n hx hb dL_law_647 rfl (lv_at hl 3 rfl) ?_
    refine uVw (nL := 4) (ci := 4) (q0 := 0) (cq := (RX6, TX6, 34)) hx hb hml hown hts hK hA hP hD hS [] [.int (n9 (hiB (BF S) (S 1) (BF S).length))] (UP.tail (y_greatestName_y l D ca mm S n U bb V LL T e1 hσ he WM hM) WX2) gL_law_X6_greatestName rfl ⟨rfl, qX6_greatestName⟩ ⟨Nat.le_of_ble_eq_true rfl, Nat.le_of_ble_eq_true rfl⟩ rfl hfm rfl hl.1 (Nat.le_of_ble_eq_true rfl) ⟨by show cells + 0 + 0 ≤ 672241; omega, by show slots + 0 + 0 ≤ 7085524; omega⟩ dL_law_648 (fun v1 W1 H locs hO hP hD hS => ?_)
    obtain ⟨WM2, hO, rfl⟩ := hO
    obtain ⟨rfl, hM2⟩ := hO
    refine W.eq (g2 := F0 m 651 ls [.int (n9 (hiB (BF S) (S 1) (BF S).length)), .int (n9 (hiB (BF S) (S 1) (BF S).length))]) rfl ?_
    obtain ⟨hP, hD⟩ := PD_swap hP hD
    refine lv_icmp_eq (tgt := 761) hx hb dL_law_651 (by decide) (fun _ => ?_) (fun c1 => absurd rfl c1)
    exact k_next l hL C0 D ca hK x mm k hk ih S n U bb V LL T e1 w (hσ) WX2 WM2 hX2 hM2 hw _ _ (by omega) (by omega) H locs ls hP hD hS hl

set_option maxHeartbeats 2000000 in
set_option maxRecDepth 20000 in
theorem k_outcomeCount {p : Program} {e : Env} {s : State} {m : MethodId} {below : List Frame} {meth : Method} {c : Code} (l : Launch) {b L : Nat} {xs : Nat → Int32} (hL : L ≤ 2048) (C0 : lw_At p s m meth c b L xs) (D : va_G) (ca : Nat → ClassId) (hK : KK D ca s) (x mm k : Nat) (hk : 4 * k + 4 ≤ L) (ih : LGo p l e s m below meth c b D ca x mm (k + 1)) (S : Nat → Nat) (n : Nat) (U : Nat → Nat → Nat) (bb : Nat → Nat) (V : Nat → Nat → Nat) (LL : Nat) (T : Nat → Nat) (e1 w : Nat) (hσ : SG S n U bb V LL T e1) (WX WM : va_W) (hX : XI ca x S n U bb V LL T e1 w WX) (hM : MI ca mm S n U bb V LL T e1 WM) (hw : w ≤ 1) (cells slots : Nat) (hc : cells + (513 - k) + 6 * (1 - w) ≤ 672241) (hs : slots + 8 * (513 - k) + 20263 * (1 - w) ≤ 7085524) (H : Heap) (locs : List Loc) (ls : Array Slot) (hP : va_P D vwCl (WX ++ WM) H) (hD : va_D (fun q : Nat => s.heap.size ≤ q) (WX ++ WM)) (hS : va_S (fun q : Nat => s.heap.size ≤ q) s.heap H locs) (hl : lv_has ls 4 [(3, .int (nI (4 * k))), (0, .ref b), (1, .ref x), (2, .ref mm)]) : W p l e room_1 s m #[Value.ref b] below meth c H locs cells slots (lw_Z below #[Value.ref b] s) (F0 m 656 ls []) := by
  obtain ⟨hx, hb, hr, hml, hown, hts0, hXs, hbl, hlocks, hgv⟩ := id C0
  have hts : ∀ w ∈ wsL_law, w.before #[Value.ref b] s = true := fun w h => hts0 w (wsL_law_in w h)
  have hA : ∀ q : Nat, s.heap.size ≤ q → (fun q : Nat => s.heap.size ≤ q) q := fun _ h => h
  have hbA : ¬ (fun q : Nat => s.heap.size ≤ q) b := Nat.not_le.mpr hbl
  have hk5 : k < 513 := by omega
  obtain ⟨fs, hfs⟩ := XI_0 hX WM
  refine lv_aload_n hx hb dL_law_656 rfl (lv_at hl 2 rfl) ?_
  rcases (show e1 = 0 ∨ e1 = 1 by have := hσ.2.2.2.2.2.2.1; omega) with he | he
  · refine uVw (nL := 4) (ci := 3) (q0 := 0) (cq := (RX5, TX5, 8)) hx hb hml hown hts hK hA hP hD hS [] [] (UP.tail (x_outcomeCount_n l D ca x S n U bb V LL T e1 w hσ he WX hX) WM) gL_law_X5_outcomeCount rfl ⟨rfl, qX5_outcomeCount⟩ ⟨Nat.le_of_ble_eq_true rfl, Nat.le_of_ble_eq_true rfl⟩ rfl hfs rfl hl.1 (Nat.le_of_ble_eq_true rfl) ⟨by show cells + 0 ≤ 672241; omega, by show slots + 0 ≤ 7085524; omega⟩ dL_law_657 (fun v1 W1 H locs hO hP hD hS => ?_)
    obtain ⟨WX2, hO, rfl⟩ := hO
    obtain ⟨rfl, hX2⟩ := hO
    refine W.eq (g2 := F0 m 660 ls [.int (-2)]) rfl ?_
    obtain ⟨hP, hD⟩ := PD_swap hP hD
    obtain ⟨fm, hfm⟩ := MI_0 hM WX2
    refine lv_aload_n hx hb dL_law_660 rfl (lv_at hl 3 rfl) ?_
    refine uVw (nL := 4) (ci := 4) (q0 := 0) (cq := (RX6, TX6, 34)) hx hb hml hown hts hK hA hP hD hS [] [.int (-2)] (UP.tail (y_outcomeCount_n l D ca mm S n U bb V LL T e1 hσ he WM hM) WX2) gL_law_X6_outcomeCount rfl ⟨rfl, qX6_outcomeCount⟩ ⟨Nat.le_of_ble_eq_true rfl, Nat.le_of_ble_eq_true rfl⟩ rfl hfm rfl hl.1 (Nat.le_of_ble_eq_true rfl) ⟨by show cells + 0 + 0 ≤ 672241; omega, by show slots + 0 + 0 ≤ 7085524; omega⟩ dL_law_661 (fun v1 W1 H locs hO hP hD hS => ?_)
    obtain ⟨WM2, hO, rfl⟩ := hO
    obtain ⟨rfl, hM2⟩ := hO
    refine W.eq (g2 := F0 m 664 ls [.int (-2), .int (-2)]) rfl ?_
    obtain ⟨hP, hD⟩ := PD_swap hP hD
    refine lv_icmp_eq (tgt := 761) hx hb dL_law_664 (by decide) (fun _ => ?_) (fun c1 => absurd rfl c1)
    exact k_next l hL C0 D ca hK x mm k hk ih S n U bb V LL T e1 w (hσ) WX2 WM2 hX2 hM2 hw _ _ (by omega) (by omega) H locs ls hP hD hS hl
  · refine uVw (nL := 4) (ci := 3) (q0 := 0) (cq := (RX5, TX5, 8)) hx hb hml hown hts hK hA hP hD hS [] [] (UP.tail (x_outcomeCount_y l D ca x S n U bb V LL T e1 w hσ he WX hX) WM) gL_law_X5_outcomeCount rfl ⟨rfl, qX5_outcomeCount⟩ ⟨Nat.le_of_ble_eq_true rfl, Nat.le_of_ble_eq_true rfl⟩ rfl hfs rfl hl.1 (Nat.le_of_ble_eq_true rfl) ⟨by show cells + 0 ≤ 672241; omega, by show slots + 0 ≤ 7085524; omega⟩ dL_law_657 (fun v1 W1 H locs hO hP hD hS => ?_)
    obtain ⟨WX2, hO, rfl⟩ := hO
    obtain ⟨rfl, hX2⟩ := hO
    refine W.eq (g2 := F0 m 660 ls [.int (nI (dsB (BF S) (S 1) (BF S).length))]) rfl ?_
    obtain ⟨hP, hD⟩ := PD_swap hP hD
    obtain ⟨fm, hfm⟩ := MI_0 hM WX2
    refine lv_aload_n hx hb dL_law_660 rfl (lv_at hl 3 rfl) ?_
    refine uVw (nL := 4) (ci := 4) (q0 := 0) (cq := (RX6, TX6, 34)) hx hb hml hown hts hK hA hP hD hS [] [.int (nI (dsB (BF S) (S 1) (BF S).length))] (UP.tail (y_outcomeCount_y l D ca mm S n U bb V LL T e1 hσ he WM hM) WX2) gL_law_X6_outcomeCount rfl ⟨rfl, qX6_outcomeCount⟩ ⟨Nat.le_of_ble_eq_true rfl, Nat.le_of_ble_eq_true rfl⟩ rfl hfm rfl hl.1 (Nat.le_of_ble_eq_true rfl) ⟨by show cells + 0 + 0 ≤ 672241; omega, by show slots + 0 + 0 ≤ 7085524; omega⟩ dL_law_661 (fun v1 W1 H locs hO hP hD hS => ?_)
    obtain ⟨WM2, hO, rfl⟩ := hO
    obtain ⟨rfl, hM2⟩ := hO
    refine W.eq (g2 := F0 m 664 ls [.int (nI (dsB (BF S) (S 1) (BF S).length)), .int (nI (dsB (BF S) (S 1) (BF S).length))]) rfl ?_
    obtain ⟨hP, hD⟩ := PD_swap hP hD
    refine lv_icmp_eq (tgt := 761) hx hb dL_law_664 (by decide) (fun _ => ?_) (fun c1 => absurd rfl c1)
    exact k_next l hL C0 D ca hK x mm k hk ih S n U bb V LL T e1 w (hσ) WX2 WM2 hX2 hM2 hw _ _ (by omega) (by omega) H locs ls hP hD hS hl

set_option maxHeartbeats 2000000 in
set_option maxRecDepth 20000 in
theorem k_finalsWith {p : Program} {e : Env} {s : State} {m : MethodId} {below : List Frame} {meth : Method} {c : Code} (l : Launch) {b L : Nat} {xs : Nat → Int32} (hL : L ≤ 2048) (C0 : lw_At p s m meth c b L xs) (D : va_G) (ca : Nat → ClassId) (hK : KK D ca s) (x mm k : Nat) (hk : 4 * k + 4 ≤ L) (ih : LGo p l e s m below meth c b D ca x mm (k + 1)) (S : Nat → Nat) (n : Nat) (U : Nat → Nat → Nat) (bb : Nat → Nat) (V : Nat → Nat → Nat) (LL : Nat) (T : Nat → Nat) (e1 w : Nat) (hσ : SG S n U bb V LL T e1) (WX WM : va_W) (hX : XI ca x S n U bb V LL T e1 w WX) (hM : MI ca mm S n U bb V LL T e1 WM) (hw : w ≤ 1) (cells slots : Nat) (hc : cells + (513 - k) + 6 * (1 - w) ≤ 672241) (hs : slots + 8 * (513 - k) + 20263 * (1 - w) ≤ 7085524) (H : Heap) (locs : List Loc) (ls : Array Slot) (hP : va_P D vwCl (WX ++ WM) H) (hD : va_D (fun q : Nat => s.heap.size ≤ q) (WX ++ WM)) (hS : va_S (fun q : Nat => s.heap.size ≤ q) s.heap H locs) (hl : lv_has ls 4 [(3, .int (nI (4 * k))), (0, .ref b), (1, .ref x), (2, .ref mm)]) : W p l e room_1 s m #[Value.ref b] below meth c H locs cells slots (lw_Z below #[Value.ref b] s) (F0 m 669 ls []) := by
  obtain ⟨hx, hb, hr, hml, hown, hts0, hXs, hbl, hlocks, hgv⟩ := id C0
  have hts : ∀ w ∈ wsL_law, w.before #[Value.ref b] s = true := fun w h => hts0 w (wsL_law_in w h)
  have hA : ∀ q : Nat, s.heap.size ≤ q → (fun q : Nat => s.heap.size ≤ q) q := fun _ h => h
  have hbA : ¬ (fun q : Nat => s.heap.size ≤ q) b := Nat.not_le.mpr hbl
  have hk5 : k < 513 := by omega
  obtain ⟨fs, hfs⟩ := XI_0 hX WM
  refine lv_aload_n hx hb dL_law_669 rfl (lv_at hl 2 rfl) ?_
  refine lv_aload_n hx hb dL_law_670 rfl (lv_at hl 1 rfl) ?_
  refine lv_iload_n hx hb dL_law_671 rfl (lv_at hl 0 rfl) ?_
  refine lv_iconst (v := nI 1) hx hb dL_law_672 (by decide) ?_
  refine n_iadd hx hb dL_law_673 ?_
  refine va_sld hx hb hXs hbl hbA hS (vp_in_nI (by omega) (by omega)) dL_law_674 ?_
  obtain ⟨a1, ha1⟩ : ∃ z, z = xs (nI (4 * k + 1)).toNatClampNeg := ⟨_, rfl⟩
  rw [← ha1]
  refine lv_aload_n hx hb dL_law_675 rfl (lv_at hl 1 rfl) ?_
  refine lv_iload_n hx hb dL_law_676 rfl (lv_at hl 0 rfl) ?_
  refine lv_iconst (v := nI 2) hx hb dL_law_677 (by decide) ?_
  refine n_iadd hx hb dL_law_678 ?_
  refine va_sld hx hb hXs hbl hbA hS (vp_in_nI (by omega) (by omega)) dL_law_679 ?_
  obtain ⟨a2, ha2⟩ : ∃ z, z = xs (nI (4 * k + 2)).toNatClampNeg := ⟨_, rfl⟩
  rw [← ha2]
  rcases (show e1 = 0 ∨ e1 = 1 by have := hσ.2.2.2.2.2.2.1; omega) with he | he
  · refine uVw (nL := 4) (ci := 3) (q0 := 0) (cq := (RX5, TX5, 8)) hx hb hml hown hts hK hA hP hD hS [.int a1, .int a2] [] (UP.tail (x_finalsWith_n l D ca x S n U bb V LL T e1 w hσ a1 a2 he WX hX) WM) gL_law_X5_finalsWith rfl ⟨rfl, qX5_finalsWith⟩ ⟨Nat.le_of_ble_eq_true rfl, Nat.le_of_ble_eq_true rfl⟩ rfl hfs rfl hl.1 (Nat.le_of_ble_eq_true rfl) ⟨by show cells + 0 ≤ 672241; omega, by show slots + 0 ≤ 7085524; omega⟩ dL_law_680 (fun v1 W1 H locs hO hP hD hS => ?_)
    obtain ⟨WX2, hO, rfl⟩ := hO
    obtain ⟨rfl, hX2⟩ := hO
    refine W.eq (g2 := F0 m 683 ls [.int (if inR (S 1) a1 ∧ inR (nmS S) a2 then -2 else -1)]) rfl ?_
    obtain ⟨hP, hD⟩ := PD_swap hP hD
    obtain ⟨fm, hfm⟩ := MI_0 hM WX2
    refine lv_aload_n hx hb dL_law_683 rfl (lv_at hl 3 rfl) ?_
    refine lv_aload_n hx hb dL_law_684 rfl (lv_at hl 1 rfl) ?_
    refine lv_iload_n hx hb dL_law_685 rfl (lv_at hl 0 rfl) ?_
    refine lv_iconst (v := nI 1) hx hb dL_law_686 (by decide) ?_
    refine n_iadd hx hb dL_law_687 ?_
    refine va_sld hx hb hXs hbl hbA hS (vp_in_nI (by omega) (by omega)) dL_law_688 ?_
    rw [← ha1]
    refine lv_aload_n hx hb dL_law_689 rfl (lv_at hl 1 rfl) ?_
    refine lv_iload_n hx hb dL_law_690 rfl (lv_at hl 0 rfl) ?_
    refine lv_iconst (v := nI 2) hx hb dL_law_691 (by decide) ?_
    refine n_iadd hx hb dL_law_692 ?_
    refine va_sld hx hb hXs hbl hbA hS (vp_in_nI (by omega) (by omega)) dL_law_693 ?_
    rw [← ha2]
    refine uVw (nL := 4) (ci := 4) (q0 := 0) (cq := (RX6, TX6, 34)) hx hb hml hown hts hK hA hP hD hS [.int a1, .int a2] [.int (if inR (S 1) a1 ∧ inR (nmS S) a2 then -2 else -1)] (UP.tail (y_finalsWith_n l D ca mm S n U bb V LL T e1 hσ a1 a2 he WM hM) WX2) gL_law_X6_finalsWith rfl ⟨rfl, qX6_finalsWith⟩ ⟨Nat.le_of_ble_eq_true rfl, Nat.le_of_ble_eq_true rfl⟩ rfl hfm rfl hl.1 (Nat.le_of_ble_eq_true rfl) ⟨by show cells + 0 + 0 ≤ 672241; omega, by show slots + 0 + 0 ≤ 7085524; omega⟩ dL_law_694 (fun v1 W1 H locs hO hP hD hS => ?_)
    obtain ⟨WM2, hO, rfl⟩ := hO
    obtain ⟨rfl, hM2⟩ := hO
    refine W.eq (g2 := F0 m 697 ls [.int (if inR (S 1) a1 ∧ inR (nmS S) a2 then -2 else -1), .int (if inR (S 1) a1 ∧ inR (nmS S) a2 then -2 else -1)]) rfl ?_
    obtain ⟨hP, hD⟩ := PD_swap hP hD
    refine lv_icmp_eq (tgt := 761) hx hb dL_law_697 (by decide) (fun _ => ?_) (fun c1 => absurd rfl c1)
    exact k_next l hL C0 D ca hK x mm k hk ih S n U bb V LL T e1 w (hσ) WX2 WM2 hX2 hM2 hw _ _ (by omega) (by omega) H locs ls hP hD hS hl
  · refine uVw (nL := 4) (ci := 3) (q0 := 0) (cq := (RX5, TX5, 8)) hx hb hml hown hts hK hA hP hD hS [.int a1, .int a2] [] (UP.tail (x_finalsWith_y l D ca x S n U bb V LL T e1 w hσ a1 a2 he WX hX) WM) gL_law_X5_finalsWith rfl ⟨rfl, qX5_finalsWith⟩ ⟨Nat.le_of_ble_eq_true rfl, Nat.le_of_ble_eq_true rfl⟩ rfl hfs rfl hl.1 (Nat.le_of_ble_eq_true rfl) ⟨by show cells + 0 ≤ 672241; omega, by show slots + 0 ≤ 7085524; omega⟩ dL_law_680 (fun v1 W1 H locs hO hP hD hS => ?_)
    obtain ⟨WX2, hO, rfl⟩ := hO
    obtain ⟨rfl, hX2⟩ := hO
    refine W.eq (g2 := F0 m 683 ls [.int (if inR (S 1) a1 ∧ inR (nmS S) a2 then nI (fnC (BF S) (S 1) a1.toNatClampNeg a2.toNatClampNeg (BF S).length) else -1)]) rfl ?_
    obtain ⟨hP, hD⟩ := PD_swap hP hD
    obtain ⟨fm, hfm⟩ := MI_0 hM WX2
    refine lv_aload_n hx hb dL_law_683 rfl (lv_at hl 3 rfl) ?_
    refine lv_aload_n hx hb dL_law_684 rfl (lv_at hl 1 rfl) ?_
    refine lv_iload_n hx hb dL_law_685 rfl (lv_at hl 0 rfl) ?_
    refine lv_iconst (v := nI 1) hx hb dL_law_686 (by decide) ?_
    refine n_iadd hx hb dL_law_687 ?_
    refine va_sld hx hb hXs hbl hbA hS (vp_in_nI (by omega) (by omega)) dL_law_688 ?_
    rw [← ha1]
    refine lv_aload_n hx hb dL_law_689 rfl (lv_at hl 1 rfl) ?_
    refine lv_iload_n hx hb dL_law_690 rfl (lv_at hl 0 rfl) ?_
    refine lv_iconst (v := nI 2) hx hb dL_law_691 (by decide) ?_
    refine n_iadd hx hb dL_law_692 ?_
    refine va_sld hx hb hXs hbl hbA hS (vp_in_nI (by omega) (by omega)) dL_law_693 ?_
    rw [← ha2]
    refine uVw (nL := 4) (ci := 4) (q0 := 0) (cq := (RX6, TX6, 34)) hx hb hml hown hts hK hA hP hD hS [.int a1, .int a2] [.int (if inR (S 1) a1 ∧ inR (nmS S) a2 then nI (fnC (BF S) (S 1) a1.toNatClampNeg a2.toNatClampNeg (BF S).length) else -1)] (UP.tail (y_finalsWith_y l D ca mm S n U bb V LL T e1 hσ a1 a2 he WM hM) WX2) gL_law_X6_finalsWith rfl ⟨rfl, qX6_finalsWith⟩ ⟨Nat.le_of_ble_eq_true rfl, Nat.le_of_ble_eq_true rfl⟩ rfl hfm rfl hl.1 (Nat.le_of_ble_eq_true rfl) ⟨by show cells + 0 + 0 ≤ 672241; omega, by show slots + 0 + 0 ≤ 7085524; omega⟩ dL_law_694 (fun v1 W1 H locs hO hP hD hS => ?_)
    obtain ⟨WM2, hO, rfl⟩ := hO
    obtain ⟨rfl, hM2⟩ := hO
    refine W.eq (g2 := F0 m 697 ls [.int (if inR (S 1) a1 ∧ inR (nmS S) a2 then nI (fnC (BF S) (S 1) a1.toNatClampNeg a2.toNatClampNeg (BF S).length) else -1), .int (if inR (S 1) a1 ∧ inR (nmS S) a2 then nI (fnC (BF S) (S 1) a1.toNatClampNeg a2.toNatClampNeg (BF S).length) else -1)]) rfl ?_
    obtain ⟨hP, hD⟩ := PD_swap hP hD
    refine lv_icmp_eq (tgt := 761) hx hb dL_law_697 (by decide) (fun _ => ?_) (fun c1 => absurd rfl c1)
    exact k_next l hL C0 D ca hK x mm k hk ih S n U bb V LL T e1 w (hσ) WX2 WM2 hX2 hM2 hw _ _ (by omega) (by omega) H locs ls hP hD hS hl

set_option maxHeartbeats 2000000 in
set_option maxRecDepth 20000 in
theorem k_undo {p : Program} {e : Env} {s : State} {m : MethodId} {below : List Frame} {meth : Method} {c : Code} (l : Launch) {b L : Nat} {xs : Nat → Int32} (hL : L ≤ 2048) (C0 : lw_At p s m meth c b L xs) (D : va_G) (ca : Nat → ClassId) (hK : KK D ca s) (x mm k : Nat) (hk : 4 * k + 4 ≤ L) (ih : LGo p l e s m below meth c b D ca x mm (k + 1)) (S : Nat → Nat) (n : Nat) (U : Nat → Nat → Nat) (bb : Nat → Nat) (V : Nat → Nat → Nat) (LL : Nat) (T : Nat → Nat) (e1 w : Nat) (hσ : SG S n U bb V LL T e1) (WX WM : va_W) (hX : XI ca x S n U bb V LL T e1 w WX) (hM : MI ca mm S n U bb V LL T e1 WM) (hw : w ≤ 1) (cells slots : Nat) (hc : cells + (513 - k) + 6 * (1 - w) ≤ 672241) (hs : slots + 8 * (513 - k) + 20263 * (1 - w) ≤ 7085524) (H : Heap) (locs : List Loc) (ls : Array Slot) (hP : va_P D vwCl (WX ++ WM) H) (hD : va_D (fun q : Nat => s.heap.size ≤ q) (WX ++ WM)) (hS : va_S (fun q : Nat => s.heap.size ≤ q) s.heap H locs) (hl : lv_has ls 4 [(3, .int (nI (4 * k))), (0, .ref b), (1, .ref x), (2, .ref mm)]) : W p l e room_1 s m #[Value.ref b] below meth c H locs cells slots (lw_Z below #[Value.ref b] s) (F0 m 702 ls []) := by
  obtain ⟨hx, hb, hr, hml, hown, hts0, hXs, hbl, hlocks, hgv⟩ := id C0
  have hts : ∀ w ∈ wsL_law, w.before #[Value.ref b] s = true := fun w h => hts0 w (wsL_law_in w h)
  have hA : ∀ q : Nat, s.heap.size ≤ q → (fun q : Nat => s.heap.size ≤ q) q := fun _ h => h
  have hbA : ¬ (fun q : Nat => s.heap.size ≤ q) b := Nat.not_le.mpr hbl
  have hk5 : k < 513 := by omega
  obtain ⟨fs, hfs⟩ := XI_0 hX WM
  refine lv_aload_n hx hb dL_law_702 rfl (lv_at hl 2 rfl) ?_
  refine uVw (nL := 4) (ci := 3) (q0 := 0) (cq := (RX5, TX5, 8)) hx hb hml hown hts hK hA hP hD hS [] [] (UP.tail (x_undo l D ca x S n U bb V LL T e1 w hσ WX hX) WM) gL_law_X5_undo rfl ⟨rfl, qX5_undo⟩ ⟨Nat.le_of_ble_eq_true rfl, Nat.le_of_ble_eq_true rfl⟩ rfl hfs rfl hl.1 (Nat.le_of_ble_eq_true rfl) ⟨by show cells + 0 ≤ 672241; omega, by show slots + 0 ≤ 7085524; omega⟩ dL_law_703 (fun v1 W1 H locs hO hP hD hS => ?_)
  obtain ⟨WX2, hO, rfl⟩ := hO
  rcases hO with (⟨h0, rfl, hX2⟩ | ⟨h0, rfl, hX2⟩)
  · refine W.eq (g2 := F0 m 706 ls [.int (-2)]) rfl ?_
    obtain ⟨hP, hD⟩ := PD_swap hP hD
    obtain ⟨fm, hfm⟩ := MI_0 hM WX2
    refine lv_aload_n hx hb dL_law_706 rfl (lv_at hl 3 rfl) ?_
    refine uVw (nL := 4) (ci := 4) (q0 := 0) (cq := (RX6, TX6, 34)) hx hb hml hown hts hK hA hP hD hS [] [.int (-2)] (UP.tail (y_undo l D ca mm S n U bb V LL T e1 hσ WM hM) WX2) gL_law_X6_undo rfl ⟨rfl, qX6_undo⟩ ⟨Nat.le_of_ble_eq_true rfl, Nat.le_of_ble_eq_true rfl⟩ rfl hfm rfl hl.1 (Nat.le_of_ble_eq_true rfl) ⟨by show cells + 0 + 0 ≤ 672241; omega, by show slots + 0 + 0 ≤ 7085524; omega⟩ dL_law_707 (fun v1 W1 H locs hO hP hD hS => ?_)
    obtain ⟨WM2, hO, rfl⟩ := hO
    rcases hO with (⟨h1, rfl, hM2⟩ | ⟨h1, rfl, hM2⟩)
    · refine W.eq (g2 := F0 m 710 ls [.int (-2), .int (-2)]) rfl ?_
      obtain ⟨hP, hD⟩ := PD_swap hP hD
      refine lv_icmp_eq (tgt := 761) hx hb dL_law_710 (by decide) (fun _ => ?_) (fun c1 => absurd rfl c1)
      exact k_next l hL C0 D ca hK x mm k hk ih S n U bb V LL T e1 w (hσ) WX2 WM2 hX2 hM2 hw _ _ (by omega) (by omega) H locs ls hP hD hS hl
    · exact absurd h0 (by omega)
  · refine W.eq (g2 := F0 m 706 ls [.int (nI (n - 1))]) rfl ?_
    obtain ⟨hP, hD⟩ := PD_swap hP hD
    obtain ⟨fm, hfm⟩ := MI_0 hM WX2
    refine lv_aload_n hx hb dL_law_706 rfl (lv_at hl 3 rfl) ?_
    refine uVw (nL := 4) (ci := 4) (q0 := 0) (cq := (RX6, TX6, 34)) hx hb hml hown hts hK hA hP hD hS [] [.int (nI (n - 1))] (UP.tail (y_undo l D ca mm S n U bb V LL T e1 hσ WM hM) WX2) gL_law_X6_undo rfl ⟨rfl, qX6_undo⟩ ⟨Nat.le_of_ble_eq_true rfl, Nat.le_of_ble_eq_true rfl⟩ rfl hfm rfl hl.1 (Nat.le_of_ble_eq_true rfl) ⟨by show cells + 0 + 0 ≤ 672241; omega, by show slots + 0 + 0 ≤ 7085524; omega⟩ dL_law_707 (fun v1 W1 H locs hO hP hD hS => ?_)
    obtain ⟨WM2, hO, rfl⟩ := hO
    rcases hO with (⟨h1, rfl, hM2⟩ | ⟨h1, rfl, hM2⟩)
    · exact absurd h1 (by omega)
    · refine W.eq (g2 := F0 m 710 ls [.int (nI (n - 1)), .int (nI (n - 1))]) rfl ?_
      obtain ⟨hP, hD⟩ := PD_swap hP hD
      refine lv_icmp_eq (tgt := 761) hx hb dL_law_710 (by decide) (fun _ => ?_) (fun c1 => absurd rfl c1)
      exact k_next l hL C0 D ca hK x mm k hk ih (U (n - 1)) (n - 1) U bb V LL T 0 w (SG_un hσ h0) WX2 WM2 hX2 hM2 hw _ _ (by omega) (by omega) H locs ls hP hD hS hl

set_option maxHeartbeats 2000000 in
set_option maxRecDepth 20000 in
theorem k_save {p : Program} {e : Env} {s : State} {m : MethodId} {below : List Frame} {meth : Method} {c : Code} (l : Launch) {b L : Nat} {xs : Nat → Int32} (hL : L ≤ 2048) (C0 : lw_At p s m meth c b L xs) (D : va_G) (ca : Nat → ClassId) (hK : KK D ca s) (x mm k : Nat) (hk : 4 * k + 4 ≤ L) (ih : LGo p l e s m below meth c b D ca x mm (k + 1)) (S : Nat → Nat) (n : Nat) (U : Nat → Nat → Nat) (bb : Nat → Nat) (V : Nat → Nat → Nat) (LL : Nat) (T : Nat → Nat) (e1 w : Nat) (hσ : SG S n U bb V LL T e1) (WX WM : va_W) (hX : XI ca x S n U bb V LL T e1 w WX) (hM : MI ca mm S n U bb V LL T e1 WM) (hw : w ≤ 1) (cells slots : Nat) (hc : cells + (513 - k) + 6 * (1 - w) ≤ 672241) (hs : slots + 8 * (513 - k) + 20263 * (1 - w) ≤ 7085524) (H : Heap) (locs : List Loc) (ls : Array Slot) (hP : va_P D vwCl (WX ++ WM) H) (hD : va_D (fun q : Nat => s.heap.size ≤ q) (WX ++ WM)) (hS : va_S (fun q : Nat => s.heap.size ≤ q) s.heap H locs) (hl : lv_has ls 4 [(3, .int (nI (4 * k))), (0, .ref b), (1, .ref x), (2, .ref mm)]) : W p l e room_1 s m #[Value.ref b] below meth c H locs cells slots (lw_Z below #[Value.ref b] s) (F0 m 715 ls []) := by
  obtain ⟨hx, hb, hr, hml, hown, hts0, hXs, hbl, hlocks, hgv⟩ := id C0
  have hts : ∀ w ∈ wsL_law, w.before #[Value.ref b] s = true := fun w h => hts0 w (wsL_law_in w h)
  have hA : ∀ q : Nat, s.heap.size ≤ q → (fun q : Nat => s.heap.size ≤ q) q := fun _ h => h
  have hbA : ¬ (fun q : Nat => s.heap.size ≤ q) b := Nat.not_le.mpr hbl
  have hk5 : k < 513 := by omega
  obtain ⟨fs, hfs⟩ := XI_0 hX WM
  refine lv_aload_n hx hb dL_law_715 rfl (lv_at hl 2 rfl) ?_
  refine lv_aload_n hx hb dL_law_716 rfl (lv_at hl 1 rfl) ?_
  refine lv_iload_n hx hb dL_law_717 rfl (lv_at hl 0 rfl) ?_
  refine lv_iconst (v := nI 1) hx hb dL_law_718 (by decide) ?_
  refine n_iadd hx hb dL_law_719 ?_
  refine va_sld hx hb hXs hbl hbA hS (vp_in_nI (by omega) (by omega)) dL_law_720 ?_
  obtain ⟨a1, ha1⟩ : ∃ z, z = xs (nI (4 * k + 1)).toNatClampNeg := ⟨_, rfl⟩
  rw [← ha1]
  refine uVw (nL := 4) (ci := 3) (q0 := 0) (cq := (RX5, TX5, 8)) hx hb hml hown hts hK hA hP hD hS [.int a1] [] (UP.tail (x_save l D ca x S n U bb V LL T e1 w hσ a1 WX hX) WM) gL_law_X5_save rfl ⟨rfl, qX5_save⟩ ⟨Nat.le_of_ble_eq_true rfl, Nat.le_of_ble_eq_true rfl⟩ rfl hfs rfl hl.1 (Nat.le_of_ble_eq_true rfl) ⟨by show cells + 1 ≤ 672241; omega, by show slots + 8 ≤ 7085524; omega⟩ dL_law_721 (fun v1 W1 H locs hO hP hD hS => ?_)
  obtain ⟨WX2, hO, rfl⟩ := hO
  rcases hO with ⟨hq, rfl, hX2⟩ | ⟨j, hj, hq, rfl, hX2⟩
  · refine W.eq (g2 := F0 m 724 ls [.int (-1)]) rfl ?_
    obtain ⟨hP, hD⟩ := PD_swap hP hD
    obtain ⟨fm, hfm⟩ := MI_0 hM WX2
    refine lv_aload_n hx hb dL_law_724 rfl (lv_at hl 3 rfl) ?_
    refine lv_aload_n hx hb dL_law_725 rfl (lv_at hl 1 rfl) ?_
    refine lv_iload_n hx hb dL_law_726 rfl (lv_at hl 0 rfl) ?_
    refine lv_iconst (v := nI 1) hx hb dL_law_727 (by decide) ?_
    refine n_iadd hx hb dL_law_728 ?_
    refine va_sld hx hb hXs hbl hbA hS (vp_in_nI (by omega) (by omega)) dL_law_729 ?_
    rw [← ha1]
    refine uVw (nL := 4) (ci := 4) (q0 := 0) (cq := (RX6, TX6, 34)) hx hb hml hown hts hK hA hP hD hS [.int a1] [.int (-1)] (UP.tail (y_save l D ca mm S n U bb V LL T e1 hσ a1 WM hM) WX2) gL_law_X6_save rfl ⟨rfl, qX6_save⟩ ⟨Nat.le_of_ble_eq_true rfl, Nat.le_of_ble_eq_true rfl⟩ rfl hfm rfl hl.1 (Nat.le_of_ble_eq_true rfl) ⟨by show cells + 1 + 0 ≤ 672241; omega, by show slots + 8 + 0 ≤ 7085524; omega⟩ dL_law_730 (fun v1 W1 H locs hO hP hD hS => ?_)
    obtain ⟨WM2, hO, rfl⟩ := hO
    rcases hO with ⟨hq2, rfl, hM2⟩ | ⟨j2, hj2, hq2, rfl, hM2⟩
    · refine W.eq (g2 := F0 m 733 ls [.int (-1), .int (-1)]) rfl ?_
      obtain ⟨hP, hD⟩ := PD_swap hP hD
      refine lv_icmp_eq (tgt := 761) hx hb dL_law_733 (by decide) (fun _ => ?_) (fun c1 => absurd rfl c1)
      exact k_next l hL C0 D ca hK x mm k hk ih S n U bb V LL T e1 w (hσ) WX2 WM2 hX2 hM2 hw _ _ (by omega) (by omega) H locs ls hP hD hS hl
    · exact absurd (by rw [hq2]; exact inR_nI (by decide) hj2) hq
  · refine W.eq (g2 := F0 m 724 ls [.int (nI (runC (S 3) (S 1)))]) rfl ?_
    obtain ⟨hP, hD⟩ := PD_swap hP hD
    obtain ⟨fm, hfm⟩ := MI_0 hM WX2
    refine lv_aload_n hx hb dL_law_724 rfl (lv_at hl 3 rfl) ?_
    refine lv_aload_n hx hb dL_law_725 rfl (lv_at hl 1 rfl) ?_
    refine lv_iload_n hx hb dL_law_726 rfl (lv_at hl 0 rfl) ?_
    refine lv_iconst (v := nI 1) hx hb dL_law_727 (by decide) ?_
    refine n_iadd hx hb dL_law_728 ?_
    refine va_sld hx hb hXs hbl hbA hS (vp_in_nI (by omega) (by omega)) dL_law_729 ?_
    rw [← ha1]
    refine uVw (nL := 4) (ci := 4) (q0 := 0) (cq := (RX6, TX6, 34)) hx hb hml hown hts hK hA hP hD hS [.int a1] [.int (nI (runC (S 3) (S 1)))] (UP.tail (y_save l D ca mm S n U bb V LL T e1 hσ a1 WM hM) WX2) gL_law_X6_save rfl ⟨rfl, qX6_save⟩ ⟨Nat.le_of_ble_eq_true rfl, Nat.le_of_ble_eq_true rfl⟩ rfl hfm rfl hl.1 (Nat.le_of_ble_eq_true rfl) ⟨by show cells + 1 + 0 ≤ 672241; omega, by show slots + 8 + 0 ≤ 7085524; omega⟩ dL_law_730 (fun v1 W1 H locs hO hP hD hS => ?_)
    obtain ⟨WM2, hO, rfl⟩ := hO
    rcases hO with ⟨hq2, rfl, hM2⟩ | ⟨j2, hj2, hq2, rfl, hM2⟩
    · exact absurd (by rw [hq]; exact inR_nI (by decide) hj) hq2
    · refine W.eq (g2 := F0 m 733 ls [.int (nI (runC (S 3) (S 1))), .int (nI (runC (S 3) (S 1)))]) rfl ?_
      obtain ⟨hP, hD⟩ := PD_swap hP hD
      refine lv_icmp_eq (tgt := 761) hx hb dL_law_733 (by decide) (fun _ => ?_) (fun c1 => absurd rfl c1)
      obtain rfl : j2 = j := (nI_eq (by omega) (by omega)).mp (hq2.symm.trans hq)
      exact k_next l hL C0 D ca hK x mm k hk ih S n U (va_up bb j2 1) (va_up V j2 S) LL T e1 w (SG_sv hσ j2) WX2 WM2 hX2 hM2 hw _ _ (by omega) (by omega) H locs ls hP hD hS hl

set_option maxHeartbeats 2000000 in
set_option maxRecDepth 20000 in
theorem k_restore {p : Program} {e : Env} {s : State} {m : MethodId} {below : List Frame} {meth : Method} {c : Code} (l : Launch) {b L : Nat} {xs : Nat → Int32} (hL : L ≤ 2048) (C0 : lw_At p s m meth c b L xs) (D : va_G) (ca : Nat → ClassId) (hK : KK D ca s) (x mm k : Nat) (hk : 4 * k + 4 ≤ L) (ih : LGo p l e s m below meth c b D ca x mm (k + 1)) (S : Nat → Nat) (n : Nat) (U : Nat → Nat → Nat) (bb : Nat → Nat) (V : Nat → Nat → Nat) (LL : Nat) (T : Nat → Nat) (e1 w : Nat) (hσ : SG S n U bb V LL T e1) (WX WM : va_W) (hX : XI ca x S n U bb V LL T e1 w WX) (hM : MI ca mm S n U bb V LL T e1 WM) (hw : w ≤ 1) (cells slots : Nat) (hc : cells + (513 - k) + 6 * (1 - w) ≤ 672241) (hs : slots + 8 * (513 - k) + 20263 * (1 - w) ≤ 7085524) (H : Heap) (locs : List Loc) (ls : Array Slot) (hP : va_P D vwCl (WX ++ WM) H) (hD : va_D (fun q : Nat => s.heap.size ≤ q) (WX ++ WM)) (hS : va_S (fun q : Nat => s.heap.size ≤ q) s.heap H locs) (hl : lv_has ls 4 [(3, .int (nI (4 * k))), (0, .ref b), (1, .ref x), (2, .ref mm)]) : W p l e room_1 s m #[Value.ref b] below meth c H locs cells slots (lw_Z below #[Value.ref b] s) (F0 m 738 ls []) := by
  obtain ⟨hx, hb, hr, hml, hown, hts0, hXs, hbl, hlocks, hgv⟩ := id C0
  have hts : ∀ w ∈ wsL_law, w.before #[Value.ref b] s = true := fun w h => hts0 w (wsL_law_in w h)
  have hA : ∀ q : Nat, s.heap.size ≤ q → (fun q : Nat => s.heap.size ≤ q) q := fun _ h => h
  have hbA : ¬ (fun q : Nat => s.heap.size ≤ q) b := Nat.not_le.mpr hbl
  have hk5 : k < 513 := by omega
  obtain ⟨fs, hfs⟩ := XI_0 hX WM
  refine lv_aload_n hx hb dL_law_738 rfl (lv_at hl 2 rfl) ?_
  refine lv_aload_n hx hb dL_law_739 rfl (lv_at hl 1 rfl) ?_
  refine lv_iload_n hx hb dL_law_740 rfl (lv_at hl 0 rfl) ?_
  refine lv_iconst (v := nI 1) hx hb dL_law_741 (by decide) ?_
  refine n_iadd hx hb dL_law_742 ?_
  refine va_sld hx hb hXs hbl hbA hS (vp_in_nI (by omega) (by omega)) dL_law_743 ?_
  obtain ⟨a1, ha1⟩ : ∃ z, z = xs (nI (4 * k + 1)).toNatClampNeg := ⟨_, rfl⟩
  rw [← ha1]
  refine uVw (nL := 4) (ci := 3) (q0 := 0) (cq := (RX5, TX5, 8)) hx hb hml hown hts hK hA hP hD hS [.int a1] [] (UP.tail (x_restore l D ca x S n U bb V LL T e1 w hσ a1 WX hX) WM) gL_law_X5_restore rfl ⟨rfl, qX5_restore⟩ ⟨Nat.le_of_ble_eq_true rfl, Nat.le_of_ble_eq_true rfl⟩ rfl hfs rfl hl.1 (Nat.le_of_ble_eq_true rfl) ⟨by show cells + 0 ≤ 672241; omega, by show slots + 0 ≤ 7085524; omega⟩ dL_law_744 (fun v1 W1 H locs hO hP hD hS => ?_)
  obtain ⟨WX2, hO, rfl⟩ := hO
  rcases hO with ⟨hq, rfl, hX2⟩ | ⟨j, hj, hq, ⟨hb1, rfl, hX2⟩ | ⟨hb1, rfl, hX2⟩⟩
  · refine W.eq (g2 := F0 m 747 ls [.int (-1)]) rfl ?_
    obtain ⟨hP, hD⟩ := PD_swap hP hD
    obtain ⟨fm, hfm⟩ := MI_0 hM WX2
    refine lv_aload_n hx hb dL_law_747 rfl (lv_at hl 3 rfl) ?_
    refine lv_aload_n hx hb dL_law_748 rfl (lv_at hl 1 rfl) ?_
    refine lv_iload_n hx hb dL_law_749 rfl (lv_at hl 0 rfl) ?_
    refine lv_iconst (v := nI 1) hx hb dL_law_750 (by decide) ?_
    refine n_iadd hx hb dL_law_751 ?_
    refine va_sld hx hb hXs hbl hbA hS (vp_in_nI (by omega) (by omega)) dL_law_752 ?_
    rw [← ha1]
    refine uVw (nL := 4) (ci := 4) (q0 := 0) (cq := (RX6, TX6, 34)) hx hb hml hown hts hK hA hP hD hS [.int a1] [.int (-1)] (UP.tail (y_restore l D ca mm S n U bb V LL T e1 hσ a1 WM hM) WX2) gL_law_X6_restore rfl ⟨rfl, qX6_restore⟩ ⟨Nat.le_of_ble_eq_true rfl, Nat.le_of_ble_eq_true rfl⟩ rfl hfm rfl hl.1 (Nat.le_of_ble_eq_true rfl) ⟨by show cells + 0 + 0 ≤ 672241; omega, by show slots + 0 + 0 ≤ 7085524; omega⟩ dL_law_753 (fun v1 W1 H locs hO hP hD hS => ?_)
    obtain ⟨WM2, hO, rfl⟩ := hO
    rcases hO with ⟨hq2, rfl, hM2⟩ | ⟨j2, hj2, hq2, ⟨hb2, rfl, hM2⟩ | ⟨hb2, rfl, hM2⟩⟩
    · refine W.eq (g2 := F0 m 756 ls [.int (-1), .int (-1)]) rfl ?_
      obtain ⟨hP, hD⟩ := PD_swap hP hD
      refine lv_icmp_eq (tgt := 761) hx hb dL_law_756 (by decide) (fun _ => ?_) (fun c1 => absurd rfl c1)
      exact k_next l hL C0 D ca hK x mm k hk ih S n U bb V LL T e1 w (hσ) WX2 WM2 hX2 hM2 hw _ _ (by omega) (by omega) H locs ls hP hD hS hl
    · exact absurd (by rw [hq2]; exact inR_nI (by decide) hj2) hq
    · exact absurd (by rw [hq2]; exact inR_nI (by decide) hj2) hq
  · refine W.eq (g2 := F0 m 747 ls [.int (-2)]) rfl ?_
    obtain ⟨hP, hD⟩ := PD_swap hP hD
    obtain ⟨fm, hfm⟩ := MI_0 hM WX2
    refine lv_aload_n hx hb dL_law_747 rfl (lv_at hl 3 rfl) ?_
    refine lv_aload_n hx hb dL_law_748 rfl (lv_at hl 1 rfl) ?_
    refine lv_iload_n hx hb dL_law_749 rfl (lv_at hl 0 rfl) ?_
    refine lv_iconst (v := nI 1) hx hb dL_law_750 (by decide) ?_
    refine n_iadd hx hb dL_law_751 ?_
    refine va_sld hx hb hXs hbl hbA hS (vp_in_nI (by omega) (by omega)) dL_law_752 ?_
    rw [← ha1]
    refine uVw (nL := 4) (ci := 4) (q0 := 0) (cq := (RX6, TX6, 34)) hx hb hml hown hts hK hA hP hD hS [.int a1] [.int (-2)] (UP.tail (y_restore l D ca mm S n U bb V LL T e1 hσ a1 WM hM) WX2) gL_law_X6_restore rfl ⟨rfl, qX6_restore⟩ ⟨Nat.le_of_ble_eq_true rfl, Nat.le_of_ble_eq_true rfl⟩ rfl hfm rfl hl.1 (Nat.le_of_ble_eq_true rfl) ⟨by show cells + 0 + 0 ≤ 672241; omega, by show slots + 0 + 0 ≤ 7085524; omega⟩ dL_law_753 (fun v1 W1 H locs hO hP hD hS => ?_)
    obtain ⟨WM2, hO, rfl⟩ := hO
    rcases hO with ⟨hq2, rfl, hM2⟩ | ⟨j2, hj2, hq2, ⟨hb2, rfl, hM2⟩ | ⟨hb2, rfl, hM2⟩⟩
    · exact absurd (by rw [hq]; exact inR_nI (by decide) hj) hq2
    · refine W.eq (g2 := F0 m 756 ls [.int (-2), .int (-2)]) rfl ?_
      obtain ⟨hP, hD⟩ := PD_swap hP hD
      refine lv_icmp_eq (tgt := 761) hx hb dL_law_756 (by decide) (fun _ => ?_) (fun c1 => absurd rfl c1)
      exact k_next l hL C0 D ca hK x mm k hk ih S n U bb V LL T e1 w (hσ) WX2 WM2 hX2 hM2 hw _ _ (by omega) (by omega) H locs ls hP hD hS hl
    · exact absurd hb1 ((nI_eq (by omega) (by omega)).mp (hq2.symm.trans hq) ▸ hb2)
  · refine W.eq (g2 := F0 m 747 ls [.int (nI (runC (V j 3) (V j 1)))]) rfl ?_
    obtain ⟨hP, hD⟩ := PD_swap hP hD
    obtain ⟨fm, hfm⟩ := MI_0 hM WX2
    refine lv_aload_n hx hb dL_law_747 rfl (lv_at hl 3 rfl) ?_
    refine lv_aload_n hx hb dL_law_748 rfl (lv_at hl 1 rfl) ?_
    refine lv_iload_n hx hb dL_law_749 rfl (lv_at hl 0 rfl) ?_
    refine lv_iconst (v := nI 1) hx hb dL_law_750 (by decide) ?_
    refine n_iadd hx hb dL_law_751 ?_
    refine va_sld hx hb hXs hbl hbA hS (vp_in_nI (by omega) (by omega)) dL_law_752 ?_
    rw [← ha1]
    refine uVw (nL := 4) (ci := 4) (q0 := 0) (cq := (RX6, TX6, 34)) hx hb hml hown hts hK hA hP hD hS [.int a1] [.int (nI (runC (V j 3) (V j 1)))] (UP.tail (y_restore l D ca mm S n U bb V LL T e1 hσ a1 WM hM) WX2) gL_law_X6_restore rfl ⟨rfl, qX6_restore⟩ ⟨Nat.le_of_ble_eq_true rfl, Nat.le_of_ble_eq_true rfl⟩ rfl hfm rfl hl.1 (Nat.le_of_ble_eq_true rfl) ⟨by show cells + 0 + 0 ≤ 672241; omega, by show slots + 0 + 0 ≤ 7085524; omega⟩ dL_law_753 (fun v1 W1 H locs hO hP hD hS => ?_)
    obtain ⟨WM2, hO, rfl⟩ := hO
    rcases hO with ⟨hq2, rfl, hM2⟩ | ⟨j2, hj2, hq2, ⟨hb2, rfl, hM2⟩ | ⟨hb2, rfl, hM2⟩⟩
    · exact absurd (by rw [hq]; exact inR_nI (by decide) hj) hq2
    · exact absurd ((nI_eq (by omega) (by omega)).mp (hq2.symm.trans hq) ▸ hb2) hb1
    · obtain rfl : j = j2 := ((nI_eq (by omega) (by omega)).mp (hq2.symm.trans hq)).symm
      refine W.eq (g2 := F0 m 756 ls [.int (nI (runC (V j 3) (V j 1))), .int (nI (runC (V j 3) (V j 1)))]) rfl ?_
      obtain ⟨hP, hD⟩ := PD_swap hP hD
      refine lv_icmp_eq (tgt := 761) hx hb dL_law_756 (by decide) (fun _ => ?_) (fun c1 => absurd rfl c1)
      exact k_next l hL C0 D ca hK x mm k hk ih (V j) 0 U bb V LL T 0 w (SG_rs hσ hj hb1) WX2 WM2 hX2 hM2 hw _ _ (by omega) (by omega) H locs ls hP hD hS hl
