/-! ===== the law: what is known at its start ===== -/
theorem arr_kn {s : State} {args : Array Value} {ty : FieldType} (h : (Cond.arrayClass ty).before args s = true) : ∃ cA : ClassId, ArrOfT s cA ty ∧ s.vm.findClass ("[" ++ ty.toString) = some cA := by
  obtain ⟨cA, kA, comp, h1, h2, h3⟩ := Cond.arrayClass_spec h
  exact ⟨cA, fun n z => ⟨fun k h => (by cases h), kA, h2, comp, h3⟩, h1⟩
theorem arr_st {s : State} {args : Array Value} {C : String} (h : (Cond.arrayOver (.object C)).before args s = true) : ∃ cA : ClassId, ArrOfT s cA (.object C) ∧ va_RA s cA (.object C) := by
  obtain ⟨comp, c, k, h1, h2, h3, h4, h5⟩ := Cond.arrayOver_spec h
  exact ⟨c, fun n z => ⟨fun k h => (by cases h), k, h3, comp, h4⟩, k, comp, h3, h4, h1, h5⟩
theorem KK_start {s : State} {args : Array Value} (hts : ∀ w ∈ lw_tbl, w.before args s = true) : ∃ (D : va_G) (ca : Nat → ClassId), KK D ca s := by
  obtain ⟨c2, i2, K2⟩ := u_known (C := RX2) (T := TX2) (N := 7) (n := 7) hts inX2 (hts _ iw_2)
  obtain ⟨c3, i3, K3⟩ := u_known (C := RX3) (T := TX3) (N := 5) (n := 5) hts inX3 (hts _ iw_3)
  obtain ⟨c4, i4, K4⟩ := u_known (C := RX4) (T := TX4) (N := 8) (n := 8) hts inX4 (hts _ iw_4)
  obtain ⟨c5, i5, K5⟩ := u_known (C := RX5) (T := TX5) (N := 8) (n := 8) hts inX5 (hts _ iw_5)
  obtain ⟨c6, i6, K6⟩ := u_known (C := RX6) (T := TX6) (N := 34) (n := 34) hts inX6 (hts _ iw_6)
  obtain ⟨aI, gI, fI⟩ := arr_kn (hts _ aw_int)
  obtain ⟨aJ, gJ, fJ⟩ := arr_kn (hts _ aw_long)
  obtain ⟨aC, gC, fC⟩ := arr_kn (hts _ aw_char)
  obtain ⟨aZ, gZ, fZ⟩ := arr_kn (hts _ aw_boolean)
  obtain ⟨aQ, gQ, fQ⟩ := arr_st (hts _ aw_state)
  refine ⟨(fun k => if k = 0 then c2 else if k = 1 then c3 else if k = 2 then c4 else if k = 3 then c5 else c6, fun k => if k = 0 then i2 else if k = 1 then i3 else if k = 2 then i4 else if k = 3 then i5 else i6), fun k => if k = 0 then aI else if k = 1 then aJ else if k = 2 then aC else if k = 3 then aZ else aQ, ⟨?_, ?_⟩, ?_, ?_, ?_⟩
  · intro k q hq
    match k, hq with
    | 0, hq => cases hq; exact K2
    | 1, hq => cases hq; exact K3
    | 2, hq => cases hq; exact K4
    | 3, hq => cases hq; exact K5
    | 4, hq => cases hq; exact K6
    | k + 5, hq => simp [vwCl] at hq
  · intro k q hq
    match k, hq with
    | 0, hq => cases hq; exact ⟨gI, fI⟩
    | 1, hq => cases hq; exact ⟨gJ, fJ⟩
    | 2, hq => cases hq; exact ⟨gC, fC⟩
    | 3, hq => cases hq; exact ⟨gZ, fZ⟩
    | 4, hq => cases hq; exact ⟨gQ, fQ⟩
    | k + 5, hq => simp [TY] at hq
  · intro q hq
    exact va_Nw.of rfl (hts _ (nwF_in _ (List.mem_map.mpr ⟨q, hq, rfl⟩)))
  · intro q hq
    exact va_Nw.of rfl (hts _ (nwM_in _ (List.mem_map.mpr ⟨q, hq, rfl⟩)))
  · exact va_AO.of (hts _ aw_state)
set_option maxHeartbeats 4000000 in
set_option maxRecDepth 100000 in
/-- THE LAW, from its entry -/
theorem whole_start {p : Program} {e : Env} {s : State} {m : MethodId} {below : List Frame} {meth : Method} {c : Code} (l : Launch) (hflags : l.flags = flags0) {b L : Nat} {xs : Nat → Int32} (hL : L ≤ 2048) (C0 : lw_At p s m meth c b L xs) : W p l e room_1 s m #[Value.ref b] below meth c s.heap [] 0 0 (lw_Z below #[Value.ref b] s) (entryFrame m ([Value.ref b] : List Value).toArray 4) := by
  obtain ⟨hx, hb, hr, hml, hown, hts0, hXs, hbl, hlocks, hgv⟩ := id C0
  have hts : ∀ w ∈ wsL_law, w.before #[Value.ref b] s = true := fun w h => hts0 w (wsL_law_in w h)
  have hA : ∀ q : Nat, s.heap.size ≤ q → (fun q : Nat => s.heap.size ≤ q) q := fun _ h => h
  obtain ⟨D, ca, hK⟩ := KK_start hts0
  have hS : va_S (fun q : Nat => s.heap.size ≤ q) s.heap s.heap [] := va_S.rf
  have hP : va_P D vwCl [] s.heap := fun k q h => by simp at h
  have hD : va_D (fun q : Nat => s.heap.size ≤ q) [] := ⟨fun i j p q h => by simp at h, fun k q h => by simp at h⟩
  have hl := lv_entry ([.ref b]) (n := 4) (Nat.le_of_ble_eq_true rfl)
  rw [lg_entry_eq]
  generalize (lg_sl ([.ref b]) ++ List.replicate (4 - (lg_sl ([.ref b])).length) Slot.unset).toArray = ls at hl ⊢
  have hl : lv_has ls 4 [(0, .ref b)] := hl
  refine va_new (D := D) (ci := 3) (fs := [.null, .null, .null, .int (nI 0), .null, .null, .null, .null]) (C := RX5) (T := TX5) (N := 8) hx hb hts0 inX5 tyX5 tyX5_ok hown (hts0 _ lw_cl5) (hts0 _ iw_5) (hts0 _ lw_in5) hK.1 hP hD hS hA rfl (fun j hj => by rcases (show j = 0 ∨ j = 1 ∨ j = 2 ∨ j = 3 ∨ j = 4 ∨ j = 5 ∨ j = 6 ∨ j = 7 by omega) with rfl | rfl | rfl | rfl | rfl | rfl | rfl | rfl <;> rfl) (Nat.le_of_ble_eq_true rfl) (Nat.le_of_ble_eq_true rfl) dL_law_0 (fun x H hP hD hS => ?_)
  have hP : va_P D vwCl [(x, .inr (3, [.null, .null, .null, .int (nI 0), .null, .null, .null, .null]))] H := hP
  have hD : va_D (fun q : Nat => s.heap.size ≤ q) [(x, .inr (3, [.null, .null, .null, .int (nI 0), .null, .null, .null, .null]))] := hD
  refine lv_dup hx hb dL_law_3 rfl ?_
  refine uI (nL := 4) (wr := []) hx hb hml hown hts hK hA hP hD hS [] [.ref x] (c_X5_init l D ca x) gL_law_X5_init rfl (hts0 _ lw_in5) (hts0 _ lw_ml5) (hts0 _ lw_im5) rfl qX5_init ⟨Nat.le_of_ble_eq_true rfl, Nat.le_of_ble_eq_true rfl⟩ [0] [] rfl rfl (by decide) (by decide) rfl hl.1 (Nat.le_of_ble_eq_true rfl) ⟨Nat.le_of_ble_eq_true rfl, Nat.le_of_ble_eq_true rfl⟩ dL_law_4 (fun v1 W1 H locs hO hP hD hS => ?_)
  obtain ⟨rfl, pr, sc, sa, sl, sch, tx, ip, ic, sv, rfl⟩ := hO
  have hP : va_P D vwCl [(x, .inr (3, [.ref pr, .ref sc, .ref sa, .int (nI 0), .ref sl, .ref sch, .null, .null])), (pr, .inr (2, cS (begS 3 2 0))), (sc, .inr (2, cS (fun _ => 0))), (sa, .inl (ca 4, 8, .inr (.inr (.inr (.inr (qo [some (sv 0), some (sv 1), some (sv 2), some (sv 3), some (sv 4), some (sv 5), some (sv 6), some (sv 7)])))))), (sv 0, .inr (2, cS (fun _ => 0))), (sv 1, .inr (2, cS (fun _ => 0))), (sv 2, .inr (2, cS (fun _ => 0))), (sv 3, .inr (2, cS (fun _ => 0))), (sv 4, .inr (2, cS (fun _ => 0))), (sv 5, .inr (2, cS (fun _ => 0))), (sv 6, .inr (2, cS (fun _ => 0))), (sv 7, .inr (2, cS (fun _ => 0))), (sl, .inl (ca 4, 2, .inr (.inr (.inr (.inr (qo [none, none])))))), (sch, .inr (1, [.ref tx, .int (nI 0), .ref ip, .ref ic, .int (nI 0)])), (tx, .inl (ca 2, 80, .inl (rwN (fun _ => 0)))), (ip, .inl (ca 0, 40, .inl (rwN (fun _ => 0)))), (ic, .inl (ca 0, 40, .inl (rwN (fun _ => 0))))] H := hP
  have hD : va_D (fun q : Nat => s.heap.size ≤ q) [(x, .inr (3, [.ref pr, .ref sc, .ref sa, .int (nI 0), .ref sl, .ref sch, .null, .null])), (pr, .inr (2, cS (begS 3 2 0))), (sc, .inr (2, cS (fun _ => 0))), (sa, .inl (ca 4, 8, .inr (.inr (.inr (.inr (qo [some (sv 0), some (sv 1), some (sv 2), some (sv 3), some (sv 4), some (sv 5), some (sv 6), some (sv 7)])))))), (sv 0, .inr (2, cS (fun _ => 0))), (sv 1, .inr (2, cS (fun _ => 0))), (sv 2, .inr (2, cS (fun _ => 0))), (sv 3, .inr (2, cS (fun _ => 0))), (sv 4, .inr (2, cS (fun _ => 0))), (sv 5, .inr (2, cS (fun _ => 0))), (sv 6, .inr (2, cS (fun _ => 0))), (sv 7, .inr (2, cS (fun _ => 0))), (sl, .inl (ca 4, 2, .inr (.inr (.inr (.inr (qo [none, none])))))), (sch, .inr (1, [.ref tx, .int (nI 0), .ref ip, .ref ic, .int (nI 0)])), (tx, .inl (ca 2, 80, .inl (rwN (fun _ => 0)))), (ip, .inl (ca 0, 40, .inl (rwN (fun _ => 0)))), (ic, .inl (ca 0, 40, .inl (rwN (fun _ => 0))))] := hD
  refine W.eq (g2 := F0 m 7 ls [.ref x]) rfl ?_
  refine lv_astore_n (lv' := [(1, .ref x), (0, .ref b)]) hx hb dL_law_7 rfl hl (by decide) rfl (fun ls hl => ?_)
  refine va_new (D := D) (ci := 4) (fs := [.int (nI 0), .null, .null, .int (nI 0), .null, .null, .null, .int (nI 0), .int (nI 0), .int (nI 0), .int (nI 0), .int (nI 0), .int (nI 0), .int (nI 0), .int (nI 0), .int (nI 0), .int (nI 0), .null, .null, .null, .null, .null, .int (nI 0), .null, .int (nI 0), .int (nI 0), .int (nI 0), .int (nI 0), .int (nI 0), .int (nI 0), .null, .null, .int (nI 0), .null]) (C := RX6) (T := TX6) (N := 34) hx hb hts0 inX6 tyX6 tyX6_ok hown (hts0 _ lw_cl6) (hts0 _ iw_6) (hts0 _ lw_in6) hK.1 hP hD hS hA rfl (fun j hj => by rcases (show j = 0 ∨ j = 1 ∨ j = 2 ∨ j = 3 ∨ j = 4 ∨ j = 5 ∨ j = 6 ∨ j = 7 ∨ j = 8 ∨ j = 9 ∨ j = 10 ∨ j = 11 ∨ j = 12 ∨ j = 13 ∨ j = 14 ∨ j = 15 ∨ j = 16 ∨ j = 17 ∨ j = 18 ∨ j = 19 ∨ j = 20 ∨ j = 21 ∨ j = 22 ∨ j = 23 ∨ j = 24 ∨ j = 25 ∨ j = 26 ∨ j = 27 ∨ j = 28 ∨ j = 29 ∨ j = 30 ∨ j = 31 ∨ j = 32 ∨ j = 33 by omega) with rfl | rfl | rfl | rfl | rfl | rfl | rfl | rfl | rfl | rfl | rfl | rfl | rfl | rfl | rfl | rfl | rfl | rfl | rfl | rfl | rfl | rfl | rfl | rfl | rfl | rfl | rfl | rfl | rfl | rfl | rfl | rfl | rfl | rfl <;> rfl) (Nat.le_of_ble_eq_true rfl) (Nat.le_of_ble_eq_true rfl) dL_law_8 (fun mm H hP hD hS => ?_)
  refine lv_dup hx hb dL_law_11 rfl ?_
  refine uI (nL := 4) (wr := [(x, .inr (3, [.ref pr, .ref sc, .ref sa, .int (nI 0), .ref sl, .ref sch, .null, .null])), (pr, .inr (2, cS (begS 3 2 0))), (sc, .inr (2, cS (fun _ => 0))), (sa, .inl (ca 4, 8, .inr (.inr (.inr (.inr (qo [some (sv 0), some (sv 1), some (sv 2), some (sv 3), some (sv 4), some (sv 5), some (sv 6), some (sv 7)])))))), (sv 0, .inr (2, cS (fun _ => 0))), (sv 1, .inr (2, cS (fun _ => 0))), (sv 2, .inr (2, cS (fun _ => 0))), (sv 3, .inr (2, cS (fun _ => 0))), (sv 4, .inr (2, cS (fun _ => 0))), (sv 5, .inr (2, cS (fun _ => 0))), (sv 6, .inr (2, cS (fun _ => 0))), (sv 7, .inr (2, cS (fun _ => 0))), (sl, .inl (ca 4, 2, .inr (.inr (.inr (.inr (qo [none, none])))))), (sch, .inr (1, [.ref tx, .int (nI 0), .ref ip, .ref ic, .int (nI 0)])), (tx, .inl (ca 2, 80, .inl (rwN (fun _ => 0)))), (ip, .inl (ca 0, 40, .inl (rwN (fun _ => 0)))), (ic, .inl (ca 0, 40, .inl (rwN (fun _ => 0))))]) hx hb hml hown hts hK hA hP hD hS [] [.ref mm] (c_X6_init l D ca mm) gL_law_X6_init rfl (hts0 _ lw_in6) (hts0 _ lw_ml6) (hts0 _ lw_im6) rfl qX6_init ⟨Nat.le_of_ble_eq_true rfl, Nat.le_of_ble_eq_true rfl⟩ [17] [0, 1, 2, 3, 4, 5, 6, 7, 8, 9, 10, 11, 12, 13, 14, 15, 16] rfl rfl (by decide) (by decide) rfl hl.1 (Nat.le_of_ble_eq_true rfl) ⟨Nat.le_of_ble_eq_true rfl, Nat.le_of_ble_eq_true rfl⟩ dL_law_12 (fun v1 W1 H locs hO hP hD hS => ?_)
  obtain ⟨rfl, r, rfl⟩ := hO
  refine W.eq (g2 := F0 m 15 ls [.ref mm]) rfl ?_
  refine lv_astore_n (lv' := [(2, .ref mm), (1, .ref x), (0, .ref b)]) hx hb dL_law_15 rfl hl (by decide) rfl (fun ls hl => ?_)
  refine lv_iconst (v := nI 0) hx hb dL_law_16 (by decide) ?_
  refine lv_istore_n (lv' := [(3, .int (nI 0)), (2, .ref mm), (1, .ref x), (0, .ref b)]) hx hb dL_law_17 rfl hl (by decide) rfl (fun ls hl => ?_)
  obtain ⟨hP, hD⟩ := PD_re (a2 := (xcore ca x pr sc sa sl sch tx ip ic sv (begS 3 2 0) (fun _ => 0) (fun _ _ => 0) 0 0 0 (fun _ => 0) (fun _ => 0) (fun _ => 0) .null .null none none)) [0, 1, 2, 3, 4, 5, 6, 7, 8, 9, 10, 11, 13, 14, 15, 16, 12] (by decide) rfl hP hD
  refine law_loop l hL C0 D ca hK x mm (L + 4) 0 (by omega) (by omega) (begS 3 2 0) 0 (fun _ _ => 0) (fun _ => 0) (fun _ _ => 0) 0 (fun _ => 0) 0 0 (xcore ca x pr sc sa sl sch tx ip ic sv (begS 3 2 0) (fun _ => 0) (fun _ _ => 0) 0 0 0 (fun _ => 0) (fun _ => 0) (fun _ => 0) .null .null none none) (mcore ca mm r (fun _ => nI 0) (begR (fun _ => 0) 3 2 0) (fun _ => 0) (fun _ => 0) (fun _ => 0) (fun _ => 0) (rwN (fun _ => 0)) (rwN (fun _ => 0)) (rwN (fun _ => 0)) (rwN (fun _ => 0)) (rwN (fun _ => 0)) (fun _ => 0) (fun _ => 0) (rwN (fun _ => 0)) (fun _ => 0)) _ _ H locs ls ?_ ?_ ?_ (by decide) ?_ ?_ hP hD hS (lv_sub hl [0, 3, 2, 1] rfl)
  · exact ⟨SOK_beg (by decide) (by decide) (by decide), by decide, fun i hi => absurd hi (Nat.not_lt_zero i), fun j hj => ⟨(by decide : (0 : Nat) < 2), fun h => absurd rfl h⟩, by decide, fun i => (by decide : (0 : Nat) ≤ 255), by decide, fun z => absurd z (by decide)⟩
  · exact ⟨pr, sc, sa, sl, sch, tx, ip, ic, sv, (fun _ => 0), (fun _ _ => 0), 0, (fun _ => 0), (fun _ => 0), .null, .null, none, none, [], [], rfl, fun i hi => absurd hi (Nat.not_lt_zero i), Or.inl ⟨rfl, rfl, rfl, rfl, rfl⟩, Or.inl ⟨rfl, rfl, rfl, rfl, rfl⟩⟩
  · exact ⟨r, (fun _ => nI 0), (begR (fun _ => 0) 3 2 0), (fun _ => 0), (fun _ => 0), (rwN (fun _ => 0)), (rwN (fun _ => 0)), (rwN (fun _ => 0)), (rwN (fun _ => 0)), (rwN (fun _ => 0)), (fun _ => 0), (fun _ => 0), (rwN (fun _ => 0)), (fun _ => 0), rfl, begR_MR _ (by decide), rfl, rfl, rfl, fun i hi => absurd hi (Nat.not_lt_zero i), fun j hj h => absurd rfl h, fun o => (by decide : (0 : Nat) < 2 ^ 31), fun z => absurd z (by decide)⟩
  · exact Nat.le_of_ble_eq_true rfl
  · exact Nat.le_of_ble_eq_true rfl
