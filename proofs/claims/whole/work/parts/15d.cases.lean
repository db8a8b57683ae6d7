set_option maxHeartbeats 2000000 in
set_option maxRecDepth 20000 in
theorem k_soloName {p : Program} {e : Env} {s : State} {m : MethodId} {below : List Frame} {meth : Method} {c : Code} (l : Launch) {b L : Nat} {xs : Nat → Int32} (hL : L ≤ 2048) (C0 : lw_At p s m meth c b L xs) (D : va_G) (ca : Nat → ClassId) (hK : KK D ca s) (x mm k : Nat) (hk : 4 * k + 4 ≤ L) (ih : LGo p l e s m below meth c b D ca x mm (k + 1)) (S : Nat → Nat) (n : Nat) (U : Nat → Nat → Nat) (bb : Nat → Nat) (V : Nat → Nat → Nat) (LL : Nat) (T : Nat → Nat) (e1 w : Nat) (hσ : SG S n U bb V LL T e1) (WX WM : va_W) (hX : XI ca x S n U bb V LL T e1 w WX) (hM : MI ca mm S n U bb V LL T e1 WM) (hw : w ≤ 1) (cells slots : Nat) (hc : cells + (513 - k) + 6 * (1 - w) ≤ 672241) (hs : slots + 8 * (513 - k) + 20263 * (1 - w) ≤ 7085524) (H : Heap) (locs : List Loc) (ls : Array Slot) (hP : va_P D vwCl (WX ++ WM) H) (hD : va_D (fun q : Nat => s.heap.size ≤ q) (WX ++ WM)) (hS : va_S (fun q : Nat => s.heap.size ≤ q) s.heap H locs) (hl : lv_has ls 4 [(3, .int (nI (4 * k))), (0, .ref b), (1, .ref x), (2, .ref mm)]) : W p l e room_1 s m #[Value.ref b] below meth c H locs cells slots (lw_Z below #[Value.ref b] s) (F0 m 443 ls []) := by
  obtain ⟨hx, hb, hr, hml, hown, hts0, hXs, hbl, hlocks, hgv⟩ := id C0
  have hts : ∀ w ∈ wsL_law, w.before #[Value.ref b] s = true := fun w h => hts0 w (wsL_law_in w h)
  have hA : ∀ q : Nat, s.heap.size ≤ q → (fun q : Nat => s.heap.size ≤ q) q := fun _ h => h
  have hbA : ¬ (fun q : Nat => s.heap.size ≤ q) b := Nat.not_le.mpr hbl
  have hk5 : k < 513 := by omega
  obtain ⟨fs, hfs⟩ := XI_0 hX WM
  refine lv_aload_n hx hb dL_law_443 rfl (lv_at hl 2 rfl) ?_
  refine lv_aload_n hx hb dL_law_444 rfl (lv_at hl 1 rfl) ?_
  refine lv_iload_n hx hb dL_law_445 rfl (lv_at hl 0 rfl) ?_
  refine lv_iconst (v := nI 1) hx hb dL_law_446 (by decide) ?_
  refine n_iadd hx hb dL_law_447 ?_
  refine va_sld hx hb hXs hbl hbA hS (vp_in_nI (by omega) (by omega)) dL_law_448 ?_
  obtain ⟨a1, ha1⟩ : ∃ z, z = xs (nI (4 * k + 1)).toNatClampNeg := ⟨_, rfl⟩
  rw [← ha1]
  refine uVw (nL := 4) (ci := 3) (q0 := 0) (cq := (RX5, TX5, 8)) hx hb hml hown hts hK hA hP hD hS [.int a1] [] (UP.tail (x_soloName l D ca x S n U bb V LL T e1 w hσ a1 WX hX) WM) gL_law_X5_soloName rfl ⟨rfl, qX5_soloName⟩ ⟨Nat.le_of_ble_eq_true rfl, Nat.le_of_ble_eq_true rfl⟩ rfl hfs rfl hl.1 (Nat.le_of_ble_eq_true rfl) ⟨by show cells + 0 ≤ 672241; omega, by show slots + 0 ≤ 7085524; omega⟩ dL_law_449 (fun v1 W1 H locs hO hP hD hS => ?_)
  obtain ⟨WX2, hO, rfl⟩ := hO
  obtain ⟨rfl, hX2⟩ := hO
  refine W.eq (g2 := F0 m 452 ls [.int (ansP (S 1) a1 (fun j => nmC (runS 16 S j 3) j))]) rfl ?_
  obtain ⟨hP, hD⟩ := PD_swap hP hD
  obtain ⟨fm, hfm⟩ := MI_0 hM WX2
  refine lv_aload_n hx hb dL_law_452 rfl (lv_at hl 3 rfl) ?_
  refine lv_aload_n hx hb dL_law_453 rfl (lv_at hl 1 rfl) ?_
  refine lv_iload_n hx hb dL_law_454 rfl (lv_at hl 0 rfl) ?_
  refine lv_iconst (v := nI 1) hx hb dL_law_455 (by decide) ?_
  refine n_iadd hx hb dL_law_456 ?_
  refine va_sld hx hb hXs hbl hbA hS (vp_in_nI (by omega) (by omega)) dL_law_457 ?_
  rw [← ha1]
  refine uVw (nL := 4) (ci := 4) (q0 := 0) (cq := (RX6, TX6, 34)) hx hb hml hown hts hK hA hP hD hS [.int a1] [.int (ansP (S 1) a1 (fun j => nmC (runS 16 S j 3) j))] (UP.tail (y_soloName l D ca mm S n U bb V LL T e1 hσ a1 WM hM) WX2) gL_law_X6_soloName rfl ⟨rfl, qX6_soloName⟩ ⟨Nat.le_of_ble_eq_true rfl, Nat.le_of_ble_eq_true rfl⟩ rfl hfm rfl hl.1 (Nat.le_of_ble_eq_true rfl) ⟨by show cells + 0 + 0 ≤ 672241; omega, by show slots + 0 + 0 ≤ 7085524; omega⟩ dL_law_458 (fun v1 W1 H locs hO hP hD hS => ?_)
  obtain ⟨WM2, hO, rfl⟩ := hO
  obtain ⟨rfl, hM2⟩ := hO
  refine W.eq (g2 := F0 m 461 ls [.int (ansP (S 1) a1 (fun j => nmC (runS 16 S j 3) j)), .int (ansP (S 1) a1 (fun j => nmC (runS 16 S j 3) j))]) rfl ?_
  obtain ⟨hP, hD⟩ := PD_swap hP hD
  refine lv_icmp_eq (tgt := 761) hx hb dL_law_461 (by decide) (fun _ => ?_) (fun c1 => absurd rfl c1)
  exact k_next l hL C0 D ca hK x mm k hk ih S n U bb V LL T e1 w (hσ) WX2 WM2 hX2 hM2 hw _ _ (by omega) (by omega) H locs ls hP hD hS hl

set_option maxHeartbeats 2000000 in
set_option maxRecDepth 20000 in
theorem k_owner {p : Program} {e : Env} {s : State} {m : MethodId} {below : List Frame} {meth : Method} {c : Code} (l : Launch) {b L : Nat} {xs : Nat → Int32} (hL : L ≤ 2048) (C0 : lw_At p s m meth c b L xs) (D : va_G) (ca : Nat → ClassId) (hK : KK D ca s) (x mm k : Nat) (hk : 4 * k + 4 ≤ L) (ih : LGo p l e s m below meth c b D ca x mm (k + 1)) (S : Nat → Nat) (n : Nat) (U : Nat → Nat → Nat) (bb : Nat → Nat) (V : Nat → Nat → Nat) (LL : Nat) (T : Nat → Nat) (e1 w : Nat) (hσ : SG S n U bb V LL T e1) (WX WM : va_W) (hX : XI ca x S n U bb V LL T e1 w WX) (hM : MI ca mm S n U bb V LL T e1 WM) (hw : w ≤ 1) (cells slots : Nat) (hc : cells + (513 - k) + 6 * (1 - w) ≤ 672241) (hs : slots + 8 * (513 - k) + 20263 * (1 - w) ≤ 7085524) (H : Heap) (locs : List Loc) (ls : Array Slot) (hP : va_P D vwCl (WX ++ WM) H) (hD : va_D (fun q : Nat => s.heap.size ≤ q) (WX ++ WM)) (hS : va_S (fun q : Nat => s.heap.size ≤ q) s.heap H locs) (hl : lv_has ls 4 [(3, .int (nI (4 * k))), (0, .ref b), (1, .ref x), (2, .ref mm)]) : W p l e room_1 s m #[Value.ref b] below meth c H locs cells slots (lw_Z below #[Value.ref b] s) (F0 m 466 ls []) := by
  obtain ⟨hx, hb, hr, hml, hown, hts0, hXs, hbl, hlocks, hgv⟩ := id C0
  have hts : ∀ w ∈ wsL_law, w.before #[Value.ref b] s = true := fun w h => hts0 w (wsL_law_in w h)
  have hA : ∀ q : Nat, s.heap.size ≤ q → (fun q : Nat => s.heap.size ≤ q) q := fun _ h => h
  have hbA : ¬ (fun q : Nat => s.heap.size ≤ q) b := Nat.not_le.mpr hbl
  have hk5 : k < 513 := by omega
  obtain ⟨fs, hfs⟩ := XI_0 hX WM
  refine lv_aload_n hx hb dL_law_466 rfl (lv_at hl 2 rfl) ?_
  refine lv_aload_n hx hb dL_law_467 rfl (lv_at hl 1 rfl) ?_
  refine lv_iload_n hx hb dL_law_468 rfl (lv_at hl 0 rfl) ?_
  refine lv_iconst (v := nI 1) hx hb dL_law_469 (by decide) ?_
  refine n_iadd hx hb dL_law_470 ?_
  refine va_sld hx hb hXs hbl hbA hS (vp_in_nI (by omega) (by omega)) dL_law_471 ?_
  obtain ⟨a1, ha1⟩ : ∃ z, z = xs (nI (4 * k + 1)).toNatClampNeg := ⟨_, rfl⟩
  rw [← ha1]
  refine uVw (nL := 4) (ci := 3) (q0 := 0) (cq := (RX5, TX5, 8)) hx hb hml hown hts hK hA hP hD hS [.int a1] [] (UP.tail (x_owner l D ca x S n U bb V LL T e1 w hσ a1 WX hX) WM) gL_law_X5_owner rfl ⟨rfl, qX5_owner⟩ ⟨Nat.le_of_ble_eq_true rfl, Nat.le_of_ble_eq_true rfl⟩ rfl hfs rfl hl.1 (Nat.le_of_ble_eq_true rfl) ⟨by show cells + 0 ≤ 672241; omega, by show slots + 0 ≤ 7085524; omega⟩ dL_law_472 (fun v1 W1 H locs hO hP hD hS => ?_)
  obtain ⟨WX2, hO, rfl⟩ := hO
  obtain ⟨rfl, hX2⟩ := hO
  refine W.eq (g2 := F0 m 475 ls [.int (ansP (nmS S) a1 (fun j => ownV (S 3) j))]) rfl ?_
  obtain ⟨hP, hD⟩ := PD_swap hP hD
  obtain ⟨fm, hfm⟩ := MI_0 hM WX2
  refine lv_aload_n hx hb dL_law_475 rfl (lv_at hl 3 rfl) ?_
  refine lv_aload_n hx hb dL_law_476 rfl (lv_at hl 1 rfl) ?_
  refine lv_iload_n hx hb dL_law_477 rfl (lv_at hl 0 rfl) ?_
  refine lv_iconst (v := nI 1) hx hb dL_law_478 (by decide) ?_
  refine n_iadd hx hb dL_law_479 ?_
  refine va_sld hx hb hXs hbl hbA hS (vp_in_nI (by omega) (by omega)) dL_law_480 ?_
  rw [← ha1]
  refine uVw (nL := 4) (ci := 4) (q0 := 0) (cq := (RX6, TX6, 34)) hx hb hml hown hts hK hA hP hD hS [.int a1] [.int (ansP (nmS S) a1 (fun j => ownV (S 3) j))] (UP.tail (y_owner l D ca mm S n U bb V LL T e1 hσ a1 WM hM) WX2) gL_law_X6_owner rfl ⟨rfl, qX6_owner⟩ ⟨Nat.le_of_ble_eq_true rfl, Nat.le_of_ble_eq_true rfl⟩ rfl hfm rfl hl.1 (Nat.le_of_ble_eq_true rfl) ⟨by show cells + 0 + 0 ≤ 672241; omega, by show slots + 0 + 0 ≤ 7085524; omega⟩ dL_law_481 (fun v1 W1 H locs hO hP hD hS => ?_)
  obtain ⟨WM2, hO, rfl⟩ := hO
  obtain ⟨rfl, hM2⟩ := hO
  refine W.eq (g2 := F0 m 484 ls [.int (ansP (nmS S) a1 (fun j => ownV (S 3) j)), .int (ansP (nmS S) a1 (fun j => ownV (S 3) j))]) rfl ?_
  obtain ⟨hP, hD⟩ := PD_swap hP hD
  refine lv_icmp_eq (tgt := 761) hx hb dL_law_484 (by decide) (fun _ => ?_) (fun c1 => absurd rfl c1)
  exact k_next l hL C0 D ca hK x mm k hk ih S n U bb V LL T e1 w (hσ) WX2 WM2 hX2 hM2 hw _ _ (by omega) (by omega) H locs ls hP hD hS hl

set_option maxHeartbeats 2000000 in
set_option maxRecDepth 20000 in
theorem k_door {p : Program} {e : Env} {s : State} {m : MethodId} {below : List Frame} {meth : Method} {c : Code} (l : Launch) {b L : Nat} {xs : Nat → Int32} (hL : L ≤ 2048) (C0 : lw_At p s m meth c b L xs) (D : va_G) (ca : Nat → ClassId) (hK : KK D ca s) (x mm k : Nat) (hk : 4 * k + 4 ≤ L) (ih : LGo p l e s m below meth c b D ca x mm (k + 1)) (S : Nat → Nat) (n : Nat) (U : Nat → Nat → Nat) (bb : Nat → Nat) (V : Nat → Nat → Nat) (LL : Nat) (T : Nat → Nat) (e1 w : Nat) (hσ : SG S n U bb V LL T e1) (WX WM : va_W) (hX : XI ca x S n U bb V LL T e1 w WX) (hM : MI ca mm S n U bb V LL T e1 WM) (hw : w ≤ 1) (cells slots : Nat) (hc : cells + (513 - k) + 6 * (1 - w) ≤ 672241) (hs : slots + 8 * (513 - k) + 20263 * (1 - w) ≤ 7085524) (H : Heap) (locs : List Loc) (ls : Array Slot) (hP : va_P D vwCl (WX ++ WM) H) (hD : va_D (fun q : Nat => s.heap.size ≤ q) (WX ++ WM)) (hS : va_S (fun q : Nat => s.heap.size ≤ q) s.heap H locs) (hl : lv_has ls 4 [(3, .int (nI (4 * k))), (0, .ref b), (1, .ref x), (2, .ref mm)]) : W p l e room_1 s m #[Value.ref b] below meth c H locs cells slots (lw_Z below #[Value.ref b] s) (F0 m 489 ls []) := by
  obtain ⟨hx, hb, hr, hml, hown, hts0, hXs, hbl, hlocks, hgv⟩ := id C0
  have hts : ∀ w ∈ wsL_law, w.before #[Value.ref b] s = true := fun w h => hts0 w (wsL_law_in w h)
  have hA : ∀ q : Nat, s.heap.size ≤ q → (fun q : Nat => s.heap.size ≤ q) q := fun _ h => h
  have hbA : ¬ (fun q : Nat => s.heap.size ≤ q) b := Nat.not_le.mpr hbl
  have hk5 : k < 513 := by omega
  obtain ⟨fs, hfs⟩ := XI_0 hX WM
  refine lv_aload_n hx hb dL_law_489 rfl (lv_at hl 2 rfl) ?_
  refine lv_aload_n hx hb dL_law_490 rfl (lv_at hl 1 rfl) ?_
  refine lv_iload_n hx hb dL_law_491 rfl (lv_at hl 0 rfl) ?_
  refine lv_iconst (v := nI 1) hx hb dL_law_492 (by decide) ?_
  refine n_iadd hx hb dL_law_493 ?_
  refine va_sld hx hb hXs hbl hbA hS (vp_in_nI (by omega) (by omega)) dL_law_494 ?_
  obtain ⟨a1, ha1⟩ : ∃ z, z = xs (nI (4 * k + 1)).toNatClampNeg := ⟨_, rfl⟩
  rw [← ha1]
  refine uVw (nL := 4) (ci := 3) (q0 := 0) (cq := (RX5, TX5, 8)) hx hb hml hown hts hK hA hP hD hS [.int a1] [] (UP.tail (x_door l D ca x S n U bb V LL T e1 w hσ a1 WX hX) WM) gL_law_X5_door rfl ⟨rfl, qX5_door⟩ ⟨Nat.le_of_ble_eq_true rfl, Nat.le_of_ble_eq_true rfl⟩ rfl hfs rfl hl.1 (Nat.le_of_ble_eq_true rfl) ⟨by show cells + 0 ≤ 672241; omega, by show slots + 0 ≤ 7085524; omega⟩ dL_law_495 (fun v1 W1 H locs hO hP hD hS => ?_)
  obtain ⟨WX2, hO, rfl⟩ := hO
  obtain ⟨rfl, hX2⟩ := hO
  refine W.eq (g2 := F0 m 498 ls [.int (ansP (nmS S) a1 (fun j => nI (doC (S 3) j)))]) rfl ?_
  obtain ⟨hP, hD⟩ := PD_swap hP hD
  obtain ⟨fm, hfm⟩ := MI_0 hM WX2
  refine lv_aload_n hx hb dL_law_498 rfl (lv_at hl 3 rfl) ?_
  refine lv_aload_n hx hb dL_law_499 rfl (lv_at hl 1 rfl) ?_
  refine lv_iload_n hx hb dL_law_500 rfl (lv_at hl 0 rfl) ?_
  refine lv_iconst (v := nI 1) hx hb dL_law_501 (by decide) ?_
  refine n_iadd hx hb dL_law_502 ?_
  refine va_sld hx hb hXs hbl hbA hS (vp_in_nI (by omega) (by omega)) dL_law_503 ?_
  rw [← ha1]
  refine uVw (nL := 4) (ci := 4) (q0 := 0) (cq := (RX6, TX6, 34)) hx hb hml hown hts hK hA hP hD hS [.int a1] [.int (ansP (nmS S) a1 (fun j => nI (doC (S 3) j)))] (UP.tail (y_door l D ca mm S n U bb V LL T e1 hσ a1 WM hM) WX2) gL_law_X6_door rfl ⟨rfl, qX6_door⟩ ⟨Nat.le_of_ble_eq_true rfl, Nat.le_of_ble_eq_true rfl⟩ rfl hfm rfl hl.1 (Nat.le_of_ble_eq_true rfl) ⟨by show cells + 0 + 0 ≤ 672241; omega, by show slots + 0 + 0 ≤ 7085524; omega⟩ dL_law_504 (fun v1 W1 H locs hO hP hD hS => ?_)
  obtain ⟨WM2, hO, rfl⟩ := hO
  obtain ⟨rfl, hM2⟩ := hO
  refine W.eq (g2 := F0 m 507 ls [.int (ansP (nmS S) a1 (fun j => nI (doC (S 3) j))), .int (ansP (nmS S) a1 (fun j => nI (doC (S 3) j)))]) rfl ?_
  obtain ⟨hP, hD⟩ := PD_swap hP hD
  refine lv_icmp_eq (tgt := 761) hx hb dL_law_507 (by decide) (fun _ => ?_) (fun c1 => absurd rfl c1)
  exact k_next l hL C0 D ca hK x mm k hk ih S n U bb V LL T e1 w (hσ) WX2 WM2 hX2 hM2 hw _ _ (by omega) (by omega) H locs ls hP hD hS hl

set_option maxHeartbeats 2000000 in
set_option maxRecDepth 20000 in
theorem k_entered {p : Program} {e : Env} {s : State} {m : MethodId} {below : List Frame} {meth : Method} {c : Code} (l : Launch) {b L : Nat} {xs : Nat → Int32} (hL : L ≤ 2048) (C0 : lw_At p s m meth c b L xs) (D : va_G) (ca : Nat → ClassId) (hK : KK D ca s) (x mm k : Nat) (hk : 4 * k + 4 ≤ L) (ih : LGo p l e s m below meth c b D ca x mm (k + 1)) (S : Nat → Nat) (n : Nat) (U : Nat → Nat → Nat) (bb : Nat → Nat) (V : Nat → Nat → Nat) (LL : Nat) (T : Nat → Nat) (e1 w : Nat) (hσ : SG S n U bb V LL T e1) (WX WM : va_W) (hX : XI ca x S n U bb V LL T e1 w WX) (hM : MI ca mm S n U bb V LL T e1 WM) (hw : w ≤ 1) (cells slots : Nat) (hc : cells + (513 - k) + 6 * (1 - w) ≤ 672241) (hs : slots + 8 * (513 - k) + 20263 * (1 - w) ≤ 7085524) (H : Heap) (locs : List Loc) (ls : Array Slot) (hP : va_P D vwCl (WX ++ WM) H) (hD : va_D (fun q : Nat => s.heap.size ≤ q) (WX ++ WM)) (hS : va_S (fun q : Nat => s.heap.size ≤ q) s.heap H locs) (hl : lv_has ls 4 [(3, .int (nI (4 * k))), (0, .ref b), (1, .ref x), (2, .ref mm)]) : W p l e room_1 s m #[Value.ref b] below meth c H locs cells slots (lw_Z below #[Value.ref b] s) (F0 m 512 ls []) := by
  obtain ⟨hx, hb, hr, hml, hown, hts0, hXs, hbl, hlocks, hgv⟩ := id C0
  have hts : ∀ w ∈ wsL_law, w.before #[Value.ref b] s = true := fun w h => hts0 w (wsL_law_in w h)
  have hA : ∀ q : Nat, s.heap.size ≤ q → (fun q : Nat => s.heap.size ≤ q) q := fun _ h => h
  have hbA : ¬ (fun q : Nat => s.heap.size ≤ q) b := Nat.not_le.mpr hbl
  have hk5 : k < 513 := by omega
  obtain ⟨fs, hfs⟩ := XI_0 hX WM
  refine lv_aload_n hx hb dL_law_512 rfl (lv_at hl 2 rfl) ?_
  refine lv_aload_n hx hb dL_law_513 rfl (lv_at hl 1 rfl) ?_
  refine lv_iload_n hx hb dL_law_514 rfl (lv_at hl 0 rfl) ?_
  refine lv_iconst (v := nI 1) hx hb dL_law_515 (by decide) ?_
  refine n_iadd hx hb dL_law_516 ?_
  refine va_sld hx hb hXs hbl hbA hS (vp_in_nI (by omega) (by omega)) dL_law_517 ?_
  obtain ⟨a1, ha1⟩ : ∃ z, z = xs (nI (4 * k + 1)).toNatClampNeg := ⟨_, rfl⟩
  rw [← ha1]
  refine uVw (nL := 4) (ci := 3) (q0 := 0) (cq := (RX5, TX5, 8)) hx hb hml hown hts hK hA hP hD hS [.int a1] [] (UP.tail (x_entered l D ca x S n U bb V LL T e1 w hσ a1 WX hX) WM) gL_law_X5_entered rfl ⟨rfl, qX5_entered⟩ ⟨Nat.le_of_ble_eq_true rfl, Nat.le_of_ble_eq_true rfl⟩ rfl hfs rfl hl.1 (Nat.le_of_ble_eq_true rfl) ⟨by show cells + 0 ≤ 672241; omega, by show slots + 0 ≤ 7085524; omega⟩ dL_law_518 (fun v1 W1 H locs hO hP hD hS => ?_)
  obtain ⟨WX2, hO, rfl⟩ := hO
  obtain ⟨rfl, hX2⟩ := hO
  refine W.eq (g2 := F0 m 521 ls [.int (ansP (nmS S) a1 (fun j => nI (cnt (S 5) j)))]) rfl ?_
  obtain ⟨hP, hD⟩ := PD_swap hP hD
  obtain ⟨fm, hfm⟩ := MI_0 hM WX2
  refine lv_aload_n hx hb dL_law_521 rfl (lv_at hl 3 rfl) ?_
  refine lv_aload_n hx hb dL_law_522 rfl (lv_at hl 1 rfl) ?_
  refine lv_iload_n hx hb dL_law_523 rfl (lv_at hl 0 rfl) ?_
  refine lv_iconst (v := nI 1) hx hb dL_law_524 (by decide) ?_
  refine n_iadd hx hb dL_law_525 ?_
  refine va_sld hx hb hXs hbl hbA hS (vp_in_nI (by omega) (by omega)) dL_law_526 ?_
  rw [← ha1]
  refine uVw (nL := 4) (ci := 4) (q0 := 0) (cq := (RX6, TX6, 34)) hx hb hml hown hts hK hA hP hD hS [.int a1] [.int (ansP (nmS S) a1 (fun j => nI (cnt (S 5) j)))] (UP.tail (y_entered l D ca mm S n U bb V LL T e1 hσ a1 WM hM) WX2) gL_law_X6_entered rfl ⟨rfl, qX6_entered⟩ ⟨Nat.le_of_ble_eq_true rfl, Nat.le_of_ble_eq_true rfl⟩ rfl hfm rfl hl.1 (Nat.le_of_ble_eq_true rfl) ⟨by show cells + 0 + 0 ≤ 672241; omega, by show slots + 0 + 0 ≤ 7085524; omega⟩ dL_law_527 (fun v1 W1 H locs hO hP hD hS => ?_)
  obtain ⟨WM2, hO, rfl⟩ := hO
  obtain ⟨rfl, hM2⟩ := hO
  refine W.eq (g2 := F0 m 530 ls [.int (ansP (nmS S) a1 (fun j => nI (cnt (S 5) j))), .int (ansP (nmS S) a1 (fun j => nI (cnt (S 5) j)))]) rfl ?_
  obtain ⟨hP, hD⟩ := PD_swap hP hD
  refine lv_icmp_eq (tgt := 761) hx hb dL_law_530 (by decide) (fun _ => ?_) (fun c1 => absurd rfl c1)
  exact k_next l hL C0 D ca hK x mm k hk ih S n U bb V LL T e1 w (hσ) WX2 WM2 hX2 hM2 hw _ _ (by omega) (by omega) H locs ls hP hD hS hl

set_option maxHeartbeats 2000000 in
set_option maxRecDepth 20000 in
theorem k_left {p : Program} {e : Env} {s : State} {m : MethodId} {below : List Frame} {meth : Method} {c : Code} (l : Launch) {b L : Nat} {xs : Nat → Int32} (hL : L ≤ 2048) (C0 : lw_At p s m meth c b L xs) (D : va_G) (ca : Nat → ClassId) (hK : KK D ca s) (x mm k : Nat) (hk : 4 * k + 4 ≤ L) (ih : LGo p l e s m below meth c b D ca x mm (k + 1)) (S : Nat → Nat) (n : Nat) (U : Nat → Nat → Nat) (bb : Nat → Nat) (V : Nat → Nat → Nat) (LL : Nat) (T : Nat → Nat) (e1 w : Nat) (hσ : SG S n U bb V LL T e1) (WX WM : va_W) (hX : XI ca x S n U bb V LL T e1 w WX) (hM : MI ca mm S n U bb V LL T e1 WM) (hw : w ≤ 1) (cells slots : Nat) (hc : cells + (513 - k) + 6 * (1 - w) ≤ 672241) (hs : slots + 8 * (513 - k) + 20263 * (1 - w) ≤ 7085524) (H : Heap) (locs : List Loc) (ls : Array Slot) (hP : va_P D vwCl (WX ++ WM) H) (hD : va_D (fun q : Nat => s.heap.size ≤ q) (WX ++ WM)) (hS : va_S (fun q : Nat => s.heap.size ≤ q) s.heap H locs) (hl : lv_has ls 4 [(3, .int (nI (4 * k))), (0, .ref b), (1, .ref x), (2, .ref mm)]) : W p l e room_1 s m #[Value.ref b] below meth c H locs cells slots (lw_Z below #[Value.ref b] s) (F0 m 535 ls []) := by
  obtain ⟨hx, hb, hr, hml, hown, hts0, hXs, hbl, hlocks, hgv⟩ := id C0
  have hts : ∀ w ∈ wsL_law, w.before #[Value.ref b] s = true := fun w h => hts0 w (wsL_law_in w h)
  have hA : ∀ q : Nat, s.heap.size ≤ q → (fun q : Nat => s.heap.size ≤ q) q := fun _ h => h
  have hbA : ¬ (fun q : Nat => s.heap.size ≤ q) b := Nat.not_le.mpr hbl
  have hk5 : k < 513 := by omega
  obtain ⟨fs, hfs⟩ := XI_0 hX WM
  refine lv_aload_n hx hb dL_law_535 rfl (lv_at hl 2 rfl) ?_
  refine lv_aload_n hx hb dL_law_536 rfl (lv_at hl 1 rfl) ?_
  refine lv_iload_n hx hb dL_law_537 rfl (lv_at hl 0 rfl) ?_
  refine lv_iconst (v := nI 1) hx hb dL_law_538 (by decide) ?_
  refine n_iadd hx hb dL_law_539 ?_
  refine va_sld hx hb hXs hbl hbA hS (vp_in_nI (by omega) (by omega)) dL_law_540 ?_
  obtain ⟨a1, ha1⟩ : ∃ z, z = xs (nI (4 * k + 1)).toNatClampNeg := ⟨_, rfl⟩
  rw [← ha1]
  refine lv_aload_n hx hb dL_law_541 rfl (lv_at hl 1 rfl) ?_
  refine lv_iload_n hx hb dL_law_542 rfl (lv_at hl 0 rfl) ?_
  refine lv_iconst (v := nI 2) hx hb dL_law_543 (by decide) ?_
  refine n_iadd hx hb dL_law_544 ?_
  refine va_sld hx hb hXs hbl hbA hS (vp_in_nI (by omega) (by omega)) dL_law_545 ?_
  obtain ⟨a2, ha2⟩ : ∃ z, z = xs (nI (4 * k + 2)).toNatClampNeg := ⟨_, rfl⟩
  rw [← ha2]
  refine uVw (nL := 4) (ci := 3) (q0 := 0) (cq := (RX5, TX5, 8)) hx hb hml hown hts hK hA hP hD hS [.int a1, .int a2] [] (UP.tail (x_left l D ca x S n U bb V LL T e1 w hσ a1 a2 WX hX) WM) gL_law_X5_left rfl ⟨rfl, qX5_left⟩ ⟨Nat.le_of_ble_eq_true rfl, Nat.le_of_ble_eq_true rfl⟩ rfl hfs rfl hl.1 (Nat.le_of_ble_eq_true rfl) ⟨by show cells + 0 ≤ 672241; omega, by show slots + 0 ≤ 7085524; omega⟩ dL_law_546 (fun v1 W1 H locs hO hP hD hS => ?_)
  obtain ⟨WX2, hO, rfl⟩ := hO
  obtain ⟨rfl, hX2⟩ := hO
  refine W.eq (g2 := F0 m 549 ls [.int (ansP (nmS S) a1 (fun j => if a2 = 0 then nI (cnt (S 6) j) else if a2 = nI 1 then nI (cnt (S 7) j) else -1))]) rfl ?_
  obtain ⟨hP, hD⟩ := PD_swap hP hD
  obtain ⟨fm, hfm⟩ := MI_0 hM WX2
  refine lv_aload_n hx hb dL_law_549 rfl (lv_at hl 3 rfl) ?_
  refine lv_aload_n hx hb dL_law_550 rfl (lv_at hl 1 rfl) ?_
  refine lv_iload_n hx hb dL_law_551 rfl (lv_at hl 0 rfl) ?_
  refine lv_iconst (v := nI 1) hx hb dL_law_552 (by decide) ?_
  refine n_iadd hx hb dL_law_553 ?_
  refine va_sld hx hb hXs hbl hbA hS (vp_in_nI (by omega) (by omega)) dL_law_554 ?_
  rw [← ha1]
  refine lv_aload_n hx hb dL_law_555 rfl (lv_at hl 1 rfl) ?_
  refine lv_iload_n hx hb dL_law_556 rfl (lv_at hl 0 rfl) ?_
  refine lv_iconst (v := nI 2) hx hb dL_law_557 (by decide) ?_
  refine n_iadd hx hb dL_law_558 ?_
  refine va_sld hx hb hXs hbl hbA hS (vp_in_nI (by omega) (by omega)) dL_law_559 ?_
  rw [← ha2]
  refine uVw (nL := 4) (ci := 4) (q0 := 0) (cq := (RX6, TX6, 34)) hx hb hml hown hts hK hA hP hD hS [.int a1, .int a2] [.int (ansP (nmS S) a1 (fun j => if a2 = 0 then nI (cnt (S 6) j) else if a2 = nI 1 then nI (cnt (S 7) j) else -1))] (UP.tail (y_left l D ca mm S n U bb V LL T e1 hσ a1 a2 WM hM) WX2) gL_law_X6_left rfl ⟨rfl, qX6_left⟩ ⟨Nat.le_of_ble_eq_true rfl, Nat.le_of_ble_eq_true rfl⟩ rfl hfm rfl hl.1 (Nat.le_of_ble_eq_true rfl) ⟨by show cells + 0 + 0 ≤ 672241; omega, by show slots + 0 + 0 ≤ 7085524; omega⟩ dL_law_560 (fun v1 W1 H locs hO hP hD hS => ?_)
  obtain ⟨WM2, hO, rfl⟩ := hO
  obtain ⟨rfl, hM2⟩ := hO
  refine W.eq (g2 := F0 m 563 ls [.int (ansP (nmS S) a1 (fun j => if a2 = 0 then nI (cnt (S 6) j) else if a2 = nI 1 then nI (cnt (S 7) j) else -1)), .int (ansP (nmS S) a1 (fun j => if a2 = 0 then nI (cnt (S 6) j) else if a2 = nI 1 then nI (cnt (S 7) j) else -1))]) rfl ?_
  obtain ⟨hP, hD⟩ := PD_swap hP hD
  refine lv_icmp_eq (tgt := 761) hx hb dL_law_563 (by decide) (fun _ => ?_) (fun c1 => absurd rfl c1)
  exact k_next l hL C0 D ca hK x mm k hk ih S n U bb V LL T e1 w (hσ) WX2 WM2 hX2 hM2 hw _ _ (by omega) (by omega) H locs ls hP hD hS hl

set_option maxHeartbeats 2000000 in
set_option maxRecDepth 20000 in
theorem k_explore {p : Program} {e : Env} {s : State} {m : MethodId} {below : List Frame} {meth : Method} {c : Code} (l : Launch) {b L : Nat} {xs : Nat → Int32} (hL : L ≤ 2048) (C0 : lw_At p s m meth c b L xs) (D : va_G) (ca : Nat → ClassId) (hK : KK D ca s) (x mm k : Nat) (hk : 4 * k + 4 ≤ L) (ih : LGo p l e s m below meth c b D ca x mm (k + 1)) (S : Nat → Nat) (n : Nat) (U : Nat → Nat → Nat) (bb : Nat → Nat) (V : Nat → Nat → Nat) (LL : Nat) (T : Nat → Nat) (e1 w : Nat) (hσ : SG S n U bb V LL T e1) (WX WM : va_W) (hX : XI ca x S n U bb V LL T e1 w WX) (hM : MI ca mm S n U bb V LL T e1 WM) (hw : w ≤ 1) (cells slots : Nat) (hc : cells + (513 - k) + 6 * (1 - w) ≤ 672241) (hs : slots + 8 * (513 - k) + 20263 * (1 - w) ≤ 7085524) (H : Heap) (locs : List Loc) (ls : Array Slot) (hP : va_P D vwCl (WX ++ WM) H) (hD : va_D (fun q : Nat => s.heap.size ≤ q) (WX ++ WM)) (hS : va_S (fun q : Nat => s.heap.size ≤ q) s.heap H locs) (hl : lv_has ls 4 [(3, .int (nI (4 * k))), (0, .ref b), (1, .ref x), (2, .ref mm)]) : W p l e room_1 s m #[Value.ref b] below meth c H locs cells slots (lw_Z below #[Value.ref b] s) (F0 m 568 ls []) := by
  obtain ⟨hx, hb, hr, hml, hown, hts0, hXs, hbl, hlocks, hgv⟩ := id C0
  have hts : ∀ w ∈ wsL_law, w.before #[Value.ref b] s = true := fun w h => hts0 w (wsL_law_in w h)
  have hA : ∀ q : Nat, s.heap.size ≤ q → (fun q : Nat => s.heap.size ≤ q) q := fun _ h => h
  have hbA : ¬ (fun q : Nat => s.heap.size ≤ q) b := Nat.not_le.mpr hbl
  have hk5 : k < 513 := by omega
  obtain ⟨fs, hfs⟩ := XI_0 hX WM
  refine lv_aload_n hx hb dL_law_568 rfl (lv_at hl 2 rfl) ?_
  rcases (show e1 = 0 ∨ e1 = 1 by have := hσ.2.2.2.2.2.2.1; omega) with he | he
  · rcases (show w = 0 ∨ w = 1 by omega) with hw0 | hw0
    · refine uVw (nL := 4) (ci := 3) (q0 := 0) (cq := (RX5, TX5, 8)) hx hb hml hown hts hK hA hP hD hS [] [] (UP.tail (x_explore_n l D ca x S n U bb V LL T e1 w hσ he hw0 WX hX) WM) gL_law_X5_explore rfl ⟨rfl, qX5_explore⟩ ⟨Nat.le_of_ble_eq_true rfl, Nat.le_of_ble_eq_true rfl⟩ rfl hfs rfl hl.1 (Nat.le_of_ble_eq_true rfl) ⟨by show cells + 6 ≤ 672241; omega, by show slots + 20263 ≤ 7085524; omega⟩ dL_law_569 (fun v1 W1 H locs hO hP hD hS => ?_)
      obtain ⟨WX2, hO, rfl⟩ := hO
      rcases hO with ⟨h4, rfl, hX2⟩ | ⟨h4, rfl, hX2⟩
      · refine W.eq (g2 := F0 m 572 ls [.int (nI (BF S).length)]) rfl ?_
        obtain ⟨hP, hD⟩ := PD_swap hP hD
        obtain ⟨fm, hfm⟩ := MI_0 hM WX2
        refine lv_aload_n hx hb dL_law_572 rfl (lv_at hl 3 rfl) ?_
        refine uVw (nL := 4) (ci := 4) (q0 := 0) (cq := (RX6, TX6, 34)) hx hb hml hown hts hK hA hP hD hS [] [.int (nI (BF S).length)] (UP.tail (y_explore l D ca mm S n U bb V LL T e1 hσ WM hM) WX2) gL_law_X6_explore rfl ⟨rfl, qX6_explore⟩ ⟨Nat.le_of_ble_eq_true rfl, Nat.le_of_ble_eq_true rfl⟩ rfl hfm rfl hl.1 (Nat.le_of_ble_eq_true rfl) ⟨by show cells + 6 + 0 ≤ 672241; omega, by show slots + 20263 + 0 ≤ 7085524; omega⟩ dL_law_573 (fun v1 W1 H locs hO hP hD hS => ?_)
        obtain ⟨WM2, hO, rfl⟩ := hO
        rcases hO with ⟨h5, rfl, hM2⟩ | ⟨h5, rfl, hM2⟩
        · refine W.eq (g2 := F0 m 576 ls [.int (nI (BF S).length), .int (nI (BF S).length)]) rfl ?_
          obtain ⟨hP, hD⟩ := PD_swap hP hD
          refine lv_icmp_eq (tgt := 761) hx hb dL_law_576 (by decide) (fun _ => ?_) (fun c1 => absurd rfl c1)
          exact k_next l hL C0 D ca hK x mm k hk ih S n U bb V LL T 1 1 (SG_e hσ h4) WX2 WM2 hX2 hM2 (Nat.le_refl 1) _ _ (by omega) (by omega) H locs ls hP hD hS hl
        · exact absurd h4 (by omega)
      · rw [he] at hM
        refine W.eq (g2 := F0 m 572 ls [.int (-3)]) rfl ?_
        obtain ⟨hP, hD⟩ := PD_swap hP hD
        obtain ⟨fm, hfm⟩ := MI_0 hM WX2
        refine lv_aload_n hx hb dL_law_572 rfl (lv_at hl 3 rfl) ?_
        refine uVw (nL := 4) (ci := 4) (q0 := 0) (cq := (RX6, TX6, 34)) hx hb hml hown hts hK hA hP hD hS [] [.int (-3)] (UP.tail (y_explore l D ca mm S n U bb V LL T 0 (SG_0 hσ) WM hM) WX2) gL_law_X6_explore rfl ⟨rfl, qX6_explore⟩ ⟨Nat.le_of_ble_eq_true rfl, Nat.le_of_ble_eq_true rfl⟩ rfl hfm rfl hl.1 (Nat.le_of_ble_eq_true rfl) ⟨by show cells + 6 + 0 ≤ 672241; omega, by show slots + 20263 + 0 ≤ 7085524; omega⟩ dL_law_573 (fun v1 W1 H locs hO hP hD hS => ?_)
        obtain ⟨WM2, hO, rfl⟩ := hO
        rcases hO with ⟨h5, rfl, hM2⟩ | ⟨h5, rfl, hM2⟩
        · exact absurd h4 (by omega)
        · refine W.eq (g2 := F0 m 576 ls [.int (-3), .int (-3)]) rfl ?_
          obtain ⟨hP, hD⟩ := PD_swap hP hD
          refine lv_icmp_eq (tgt := 761) hx hb dL_law_576 (by decide) (fun _ => ?_) (fun c1 => absurd rfl c1)
          exact k_next l hL C0 D ca hK x mm k hk ih S n U bb V LL T 0 1 (SG_0 hσ) WX2 WM2 hX2 hM2 (Nat.le_refl 1) _ _ (by omega) (by omega) H locs ls hP hD hS hl
    · refine uVw (nL := 4) (ci := 3) (q0 := 0) (cq := (RX5, TX5, 8)) hx hb hml hown hts hK hA hP hD hS [] [] (UP.tail (x_explore_w l D ca x S n U bb V LL T e1 w hσ he hw0 WX hX) WM) gL_law_X5_explore rfl ⟨rfl, qX5_explore⟩ ⟨Nat.le_of_ble_eq_true rfl, Nat.le_of_ble_eq_true rfl⟩ rfl hfs rfl hl.1 (Nat.le_of_ble_eq_true rfl) ⟨by show cells + 0 ≤ 672241; omega, by show slots + 0 ≤ 7085524; omega⟩ dL_law_569 (fun v1 W1 H locs hO hP hD hS => ?_)
      obtain ⟨WX2, hO, rfl⟩ := hO
      rcases hO with ⟨h4, rfl, hX2⟩ | ⟨h4, rfl, hX2⟩
      · refine W.eq (g2 := F0 m 572 ls [.int (nI (BF S).length)]) rfl ?_
        obtain ⟨hP, hD⟩ := PD_swap hP hD
        obtain ⟨fm, hfm⟩ := MI_0 hM WX2
        refine lv_aload_n hx hb dL_law_572 rfl (lv_at hl 3 rfl) ?_
        refine uVw (nL := 4) (ci := 4) (q0 := 0) (cq := (RX6, TX6, 34)) hx hb hml hown hts hK hA hP hD hS [] [.int (nI (BF S).length)] (UP.tail (y_explore l D ca mm S n U bb V LL T e1 hσ WM hM) WX2) gL_law_X6_explore rfl ⟨rfl, qX6_explore⟩ ⟨Nat.le_of_ble_eq_true rfl, Nat.le_of_ble_eq_true rfl⟩ rfl hfm rfl hl.1 (Nat.le_of_ble_eq_true rfl) ⟨by show cells + 0 + 0 ≤ 672241; omega, by show slots + 0 + 0 ≤ 7085524; omega⟩ dL_law_573 (fun v1 W1 H locs hO hP hD hS => ?_)
        obtain ⟨WM2, hO, rfl⟩ := hO
        rcases hO with ⟨h5, rfl, hM2⟩ | ⟨h5, rfl, hM2⟩
        · refine W.eq (g2 := F0 m 576 ls [.int (nI (BF S).length), .int (nI (BF S).length)]) rfl ?_
          obtain ⟨hP, hD⟩ := PD_swap hP hD
          refine lv_icmp_eq (tgt := 761) hx hb dL_law_576 (by decide) (fun _ => ?_) (fun c1 => absurd rfl c1)
          exact k_next l hL C0 D ca hK x mm k hk ih S n U bb V LL T 1 1 (SG_e hσ h4) WX2 WM2 hX2 hM2 (Nat.le_refl 1) _ _ (by omega) (by omega) H locs ls hP hD hS hl
        · exact absurd h4 (by omega)
      · rw [he] at hM
        refine W.eq (g2 := F0 m 572 ls [.int (-3)]) rfl ?_
        obtain ⟨hP, hD⟩ := PD_swap hP hD
        obtain ⟨fm, hfm⟩ := MI_0 hM WX2
        refine lv_aload_n hx hb dL_law_572 rfl (lv_at hl 3 rfl) ?_
        refine uVw (nL := 4) (ci := 4) (q0 := 0) (cq := (RX6, TX6, 34)) hx hb hml hown hts hK hA hP hD hS [] [.int (-3)] (UP.tail (y_explore l D ca mm S n U bb V LL T 0 (SG_0 hσ) WM hM) WX2) gL_law_X6_explore rfl ⟨rfl, qX6_explore⟩ ⟨Nat.le_of_ble_eq_true rfl, Nat.le_of_ble_eq_true rfl⟩ rfl hfm rfl hl.1 (Nat.le_of_ble_eq_true rfl) ⟨by show cells + 0 + 0 ≤ 672241; omega, by show slots + 0 + 0 ≤ 7085524; omega⟩ dL_law_573 (fun v1 W1 H locs hO hP hD hS => ?_)
        obtain ⟨WM2, hO, rfl⟩ := hO
        rcases hO with ⟨h5, rfl, hM2⟩ | ⟨h5, rfl, hM2⟩
        · exact absurd h4 (by omega)
        · refine W.eq (g2 := F0 m 576 ls [.int (-3), .int (-3)]) rfl ?_
          obtain ⟨hP, hD⟩ := PD_swap hP hD
          refine lv_icmp_eq (tgt := 761) hx hb dL_law_576 (by decide) (fun _ => ?_) (fun c1 => absurd rfl c1)
          exact k_next l hL C0 D ca hK x mm k hk ih S n U bb V LL T 0 1 (SG_0 hσ) WX2 WM2 hX2 hM2 (Nat.le_refl 1) _ _ (by omega) (by omega) H locs ls hP hD hS hl
  · refine uVw (nL := 4) (ci := 3) (q0 := 0) (cq := (RX5, TX5, 8)) hx hb hml hown hts hK hA hP hD hS [] [] (UP.tail (x_explore_t l D ca x S n U bb V LL T e1 w hσ he WX hX) WM) gL_law_X5_explore rfl ⟨rfl, qX5_explore⟩ ⟨Nat.le_of_ble_eq_true rfl, Nat.le_of_ble_eq_true rfl⟩ rfl hfs rfl hl.1 (Nat.le_of_ble_eq_true rfl) ⟨by show cells + 0 ≤ 672241; omega, by show slots + 0 ≤ 7085524; omega⟩ dL_law_569 (fun v1 W1 H locs hO hP hD hS => ?_)
    obtain ⟨WX2, hO, rfl⟩ := hO
    obtain ⟨rfl, hX2⟩ := hO
    have h4 := hσ.2.2.2.2.2.2.2 he
    rw [he] at hX2
    refine W.eq (g2 := F0 m 572 ls [.int (nI (BF S).length)]) rfl ?_
    obtain ⟨hP, hD⟩ := PD_swap hP hD
    obtain ⟨fm, hfm⟩ := MI_0 hM WX2
    refine lv_aload_n hx hb dL_law_572 rfl (lv_at hl 3 rfl) ?_
    refine uVw (nL := 4) (ci := 4) (q0 := 0) (cq := (RX6, TX6, 34)) hx hb hml hown hts hK hA hP hD hS [] [.int (nI (BF S).length)] (UP.tail (y_explore l D ca mm S n U bb V LL T e1 hσ WM hM) WX2) gL_law_X6_explore rfl ⟨rfl, qX6_explore⟩ ⟨Nat.le_of_ble_eq_true rfl, Nat.le_of_ble_eq_true rfl⟩ rfl hfm rfl hl.1 (Nat.le_of_ble_eq_true rfl) ⟨by show cells + 0 + 0 ≤ 672241; omega, by show slots + 0 + 0 ≤ 7085524; omega⟩ dL_law_573 (fun v1 W1 H locs hO hP hD hS => ?_)
    obtain ⟨WM2, hO, rfl⟩ := hO
    rcases hO with ⟨h5, rfl, hM2⟩ | ⟨h5, rfl, hM2⟩
    · refine W.eq (g2 := F0 m 576 ls [.int (nI (BF S).length), .int (nI (BF S).length)]) rfl ?_
      obtain ⟨hP, hD⟩ := PD_swap hP hD
      refine lv_icmp_eq (tgt := 761) hx hb dL_law_576 (by decide) (fun _ => ?_) (fun c1 => absurd rfl c1)
      exact k_next l hL C0 D ca hK x mm k hk ih S n U bb V LL T 1 w (SG_e hσ h4) WX2 WM2 hX2 hM2 hw _ _ (by omega) (by omega) H locs ls hP hD hS hl
    · exact absurd h5 (by omega)

set_option maxHeartbeats 2000000 in
set_option maxRecDepth 20000 in
theorem k_finalCount {p : Program} {e : Env} {s : State} {m : MethodId} {below : List Frame} {meth : Method} {c : Code} (l : Launch) {b L : Nat} {xs : Nat → Int32} (hL : L ≤ 2048) (C0 : lw_At p s m meth c b L xs) (D : va_G) (ca : Nat → ClassId) (hK : KK D ca s) (x mm k : Nat) (hk : 4 * k + 4 ≤ L) (ih : LGo p l e s m below meth c b D ca x mm (k + 1)) (S : Nat → Nat) (n : Nat) (U : Nat → Nat → Nat) (bb : Nat → Nat) (V : Nat → Nat → Nat) (LL : Nat) (T : Nat → Nat) (e1 w : Nat) (hσ : SG S n U bb V LL T e1) (WX WM : va_W) (hX : XI ca x S n U bb V LL T e1 w WX) (hM : MI ca mm S n U bb V LL T e1 WM) (hw : w ≤ 1) (cells slots : Nat) (hc : cells + (513 - k) + 6 * (1 - w) ≤ 672241) (hs : slots + 8 * (513 - k) + 20263 * (1 - w) ≤ 7085524) (H : Heap) (locs : List Loc) (ls : Array Slot) (hP : va_P D vwCl (WX ++ WM) H) (hD : va_D (fun q : Nat => s.heap.size ≤ q) (WX ++ WM)) (hS : va_S (fun q : Nat => s.heap.size ≤ q) s.heap H locs) (hl : lv_has ls 4 [(3, .int (nI (4 * k))), (0, .ref b), (1, .ref x), (2, .ref mm)]) : W p l e room_1 s m #[Value.ref b] below meth c H locs cells slots (lw_Z below #[Value.ref b] s) (F0 m 581 ls []) := by
  obtain ⟨hx, hb, hr, hml, hown, hts0, hXs, hbl, hlocks, hgv⟩ := id C0
  have hts : ∀ w ∈ wsL_law, w.before #[Value.ref b] s = true := fun w h => hts0 w (wsL_law_in w h)
  have hA : ∀ q : Nat, s.heap.size ≤ q → (fun q : Nat => s.heap.size ≤ q) q := fun _ h => h
  have hbA : ¬ (fun q : Nat => s.heap.size ≤ q) b := Nat.not_le.mpr hbl
  have hk5 : k < 513 := by omega
  obtain ⟨fs, hfs⟩ := XI_0 hX WM
  refine lv_aload_n hx hb dL_law_581 rfl (lv_at hl 2 rfl) ?_
  rcases (show e1 = 0 ∨ e1 = 1 by have := hσ.2.2.2.2.2.2.1; omega) with he | he
  · refine uVw (nL := 4) (ci := 3) (q0 := 0) (cq := (RX5, TX5, 8)) hx hb hml hown hts hK hA hP hD hS [] [] (UP.tail (x_finalCount_n l D ca x S n U bb V LL T e1 w hσ he WX hX) WM) gL_law_X5_finalCount rfl ⟨rfl, qX5_finalCount⟩ ⟨Nat.le_of_ble_eq_true rfl, Nat.le_of_ble_eq_true rfl⟩ rfl hfs rfl hl.1 (Nat.le_of_ble_eq_true rfl) ⟨by show cells + 0 ≤ 672241; omega, by show slots + 0 ≤ 7085524; omega⟩ dL_law_582 (fun v1 W1 H locs hO hP hD hS => ?_)
    obtain ⟨WX2, hO, rfl⟩ := hO
    obtain ⟨rfl, hX2⟩ := hO
    refine W.eq (g2 := F0 m 585 ls [.int (-2)]) rfl ?_
    obtain ⟨hP, hD⟩ := PD_swap hP hD
    obtain ⟨fm, hfm⟩ := MI_0 hM WX2
    refine lv_aload_n hx hb dL_law_585 rfl (lv_at hl 3 rfl) ?_
    refine uVw (nL := 4) (ci := 4) (q0 := 0) (cq := (RX6, TX6, 34)) hx hb hml hown hts hK hA hP hD hS [] [.int (-2)] (UP.tail (y_finalCount_n l D ca mm S n U bb V LL T e1 hσ he WM hM) WX2) gL_law_X6_finalCount rfl ⟨rfl, qX6_finalCount⟩ ⟨Nat.le_of_ble_eq_true rfl, Nat.le_of_ble_eq_true rfl⟩ rfl hfm rfl hl.1 (Nat.le_of_ble_eq_true rfl) ⟨by show cells + 0 + 0 ≤ 672241; omega, by show slots + 0 + 0 ≤ 7085524; omega⟩ dL_law_586 (fun v1 W1 H locs hO hP hD hS => ?_)
    obtain ⟨WM2, hO, rfl⟩ := hO
    obtain ⟨rfl, hM2⟩ := hO
    refine W.eq (g2 := F0 m 589 ls [.int (-2), .int (-2)]) rfl ?_
    obtain ⟨hP, hD⟩ := PD_swap hP hD
    refine lv_icmp_eq (tgt := 761) hx hb dL_law_589 (by decide) (fun _ => ?_) (fun c1 => absurd rfl c1)
    exact k_next l hL C0 D ca hK x mm k hk ih S n U bb V LL T e1 w (hσ) WX2 WM2 hX2 hM2 hw _ _ (by omega) (by omega) H locs ls hP hD hS hl
  · refine uVw (nL := 4) (ci := 3) (q0 := 0) (cq := (RX5, TX5, 8)) hx hb hml hown hts hK hA hP hD hS [] [] (UP.tail (x_finalCount_y l D ca x S n U bb V LL T e1 w hσ he WX hX) WM) gL_law_X5_finalCount rfl ⟨rfl, qX5_finalCount⟩ ⟨Nat.le_of_ble_eq_true rfl, Nat.le_of_ble_eq_true rfl⟩ rfl hfs rfl hl.1 (Nat.le_of_ble_eq_true rfl) ⟨by show cells + 0 ≤ 672241; omega, by show slots + 0 ≤ 7085524; omega⟩ dL_law_582 (fun v1 W1 H locs hO hP hD hS => ?_)
    obtain ⟨WX2, hO, rfl⟩ := hO
    obtain ⟨rfl, hX2⟩ := hO
    refine W.eq (g2 := F0 m 585 ls [.int (nI (fiC (BF S) (S 1) (BF S).length))]) rfl ?_
    obtain ⟨hP, hD⟩ := PD_swap hP hD
    obtain ⟨fm, hfm⟩ := MI_0 hM WX2
    refine lv_aload_n hx hb dL_law_585 rfl (lv_at hl 3 rfl) ?_
    refine uVw (nL := 4) (ci := 4) (q0 := 0) (cq := (RX6, TX6, 34)) hx hb hml hown hts hK hA hP hD hS [] [.int (nI (fiC (BF S) (S 1) (BF S).length))] (UP.tail (y_finalCount_y l D ca mm S n U bb V LL T e1 hσ he WM hM) WX2) gL_law_X6_finalCount rfl ⟨rfl, qX6_finalCount⟩ ⟨Nat.le_of_ble_eq_true rfl, Nat.le_of_ble_eq_true rfl⟩ rfl hfm rfl hl.1 (Nat.le_of_ble_eq_true rfl) ⟨by show cells + 0 + 0 ≤ 672241; omega, by show slots + 0 + 0 ≤ 7085524; omega⟩ dL_law_586 (fun v1 W1 H locs hO hP hD hS => ?_)
    obtain ⟨WM2, hO, rfl⟩ := hO
    obtain ⟨rfl, hM2⟩ := hO
    refine W.eq (g2 := F0 m 589 ls [.int (nI (fiC (BF S) (S 1) (BF S).length)), .int (nI (fiC (BF S) (S 1) (BF S).length))]) rfl ?_
    obtain ⟨hP, hD⟩ := PD_swap hP hD
    refine lv_icmp_eq (tgt := 761) hx hb dL_law_589 (by decide) (fun _ => ?_) (fun c1 => absurd rfl c1)
    exact k_next l hL C0 D ca hK x mm k hk ih S n U bb V LL T e1 w (hσ) WX2 WM2 hX2 hM2 hw _ _ (by omega) (by omega) H locs ls hP hD hS hl
