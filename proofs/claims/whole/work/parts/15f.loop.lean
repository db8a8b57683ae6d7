/-! ===== the law: the loop ===== -/
set_option maxHeartbeats 2000000 in
set_option maxRecDepth 20000 in
theorem law_loop {p : Program} {e : Env} {s : State} {m : MethodId} {below : List Frame} {meth : Method} {c : Code} (l : Launch) {b L : Nat} {xs : Nat → Int32} (hL : L ≤ 2048) (C0 : lw_At p s m meth c b L xs) (D : va_G) (ca : Nat → ClassId) (hK : KK D ca s) (x mm : Nat) : ∀ (N_ k : Nat), 4 * k ≤ L + 3 → L + 4 ≤ 4 * k + 4 * N_ → LGo p l e s m below meth c b D ca x mm k := by
  obtain ⟨hx, hb, hr, hml, hown, hts0, hXs, hbl, hlocks, hgv⟩ := id C0
  have hts : ∀ w ∈ wsL_law, w.before #[Value.ref b] s = true := fun w h => hts0 w (wsL_law_in w h)
  have hA : ∀ q : Nat, s.heap.size ≤ q → (fun q : Nat => s.heap.size ≤ q) q := fun _ h => h
  have hbA : ¬ (fun q : Nat => s.heap.size ≤ q) b := Nat.not_le.mpr hbl
  intro N_
  induction N_ with
  | zero => intro k h1 h2; exfalso; omega
  | succ N_ ih =>
    intro k h1 h2 S n U bb V LL T e1 w WX WM cells slots H locs ls hσ hX hM hw hc hs hP hD hS hl
    refine lv_iload_n hx hb dL_law_18 rfl (lv_at hl 0 rfl) ?_
    refine lv_aload_n hx hb dL_law_19 rfl (lv_at hl 1 rfl) ?_
    refine va_slen hx hb hXs hbl hbA hS dL_law_20 ?_
    refine lv_iconst (v := nI 4) hx hb dL_law_21 (by decide) ?_
    refine lv_isub hx hb dL_law_22 ?_
    refine lv_icmp_gt (tgt := 767) hx hb dL_law_23 (by decide) (fun c23 => ?_) (fun c23 => ?_)
    · refine lv_iconst (v := 1) hx hb dL_law_767 (by decide) ?_
      refine va_forget (fun q hq => hS.2.2 q hq) ?_
      refine W.widen (k := 672241) (n := 7085524) (by omega) (by omega) ?_
      exact lw_ret hx hb hr hlocks dL_law_768
    · have hk : 4 * k + 4 ≤ L := Nat.not_lt.mp (fun z => c23 ((q_lt hL (by omega)).mpr z))
      refine lv_aload_n hx hb dL_law_26 rfl (lv_at hl 1 rfl) ?_
      refine lv_iload_n hx hb dL_law_27 rfl (lv_at hl 0 rfl) ?_
      refine va_sld hx hb hXs hbl hbA hS (vp_in_nI (by omega) (by omega)) dL_law_28 ?_
      obtain ⟨q, -, hq⟩ := wb_of32 (xs (nI (4 * k)).toNatClampNeg)
      rw [hq]
      refine lv_bipush (v := nI 31) hx hb dL_law_29 (by decide) ?_
      refine n_iand hx hb 5 (by decide) dL_law_31 ?_
      obtain ⟨t, ht, hte⟩ : ∃ t, t < 32 ∧ q % 2 ^ 5 = t := ⟨_, Nat.mod_lt _ (by decide), rfl⟩
      rw [hte]
      have ih2 := ih (k + 1) (by omega) (by omega)
      rcases (show t = 0 ∨ t = 1 ∨ t = 2 ∨ t = 3 ∨ t = 4 ∨ t = 5 ∨ t = 6 ∨ t = 7 ∨ t = 8 ∨ t = 9 ∨ t = 10 ∨ t = 11 ∨ t = 12 ∨ t = 13 ∨ t = 14 ∨ t = 15 ∨ t = 16 ∨ t = 17 ∨ t = 18 ∨ t = 19 ∨ t = 20 ∨ t = 21 ∨ t = 22 ∨ t = 23 ∨ t = 24 ∨ t = 25 ∨ t = 26 ∨ t = 27 ∨ t = 28 ∨ 29 ≤ t by omega) with rfl | rfl | rfl | rfl | rfl | rfl | rfl | rfl | rfl | rfl | rfl | rfl | rfl | rfl | rfl | rfl | rfl | rfl | rfl | rfl | rfl | rfl | rfl | rfl | rfl | rfl | rfl | rfl | rfl | h29
      · refine lv_tableIn (tgt := 164) hx hb dL_law_32 (by decide) (by decide) rfl (by decide) ?_
        exact k_configure l hL C0 D ca hK x mm k hk ih2 S n U bb V LL T e1 w hσ WX WM hX hM hw cells slots hc hs H locs ls hP hD hS hl
      · refine lv_tableIn (tgt := 207) hx hb dL_law_32 (by decide) (by decide) rfl (by decide) ?_
        exact k_nameCount l hL C0 D ca hK x mm k hk ih2 S n U bb V LL T e1 w hσ WX WM hX hM hw cells slots hc hs H locs ls hP hD hS hl
      · refine lv_tableIn (tgt := 220) hx hb dL_law_32 (by decide) (by decide) rfl (by decide) ?_
        exact k_processCount l hL C0 D ca hK x mm k hk ih2 S n U bb V LL T e1 w hσ WX WM hX hM hw cells slots hc hs H locs ls hP hD hS hl
      · refine lv_tableIn (tgt := 233) hx hb dL_law_32 (by decide) (by decide) rfl (by decide) ?_
        exact k_step l hL C0 D ca hK x mm k hk ih2 S n U bb V LL T e1 w hσ WX WM hX hM hw cells slots hc hs H locs ls hP hD hS hl
      · refine lv_tableIn (tgt := 256) hx hb dL_law_32 (by decide) (by decide) rfl (by decide) ?_
        exact k_crash l hL C0 D ca hK x mm k hk ih2 S n U bb V LL T e1 w hσ WX WM hX hM hw cells slots hc hs H locs ls hP hD hS hl
      · refine lv_tableIn (tgt := 279) hx hb dL_law_32 (by decide) (by decide) rfl (by decide) ?_
        exact k_append l hL C0 D ca hK x mm k hk ih2 S n U bb V LL T e1 w hσ WX WM hX hM hw cells slots hc hs H locs ls hP hD hS hl
      · refine lv_tableIn (tgt := 302) hx hb dL_law_32 (by decide) (by decide) rfl (by decide) ?_
        exact k_clearText l hL C0 D ca hK x mm k hk ih2 S n U bb V LL T e1 w hσ WX WM hX hM hw cells slots hc hs H locs ls hP hD hS hl
      · refine lv_tableIn (tgt := 315) hx hb dL_law_32 (by decide) (by decide) rfl (by decide) ?_
        exact k_runText l hL C0 D ca hK x mm k hk ih2 S n U bb V LL T e1 w hσ WX WM hX hM hw cells slots hc hs H locs ls hP hD hS hl
      · refine lv_tableIn (tgt := 328) hx hb dL_law_32 (by decide) (by decide) rfl (by decide) ?_
        exact k_status l hL C0 D ca hK x mm k hk ih2 S n U bb V LL T e1 w hσ WX WM hX hM hw cells slots hc hs H locs ls hP hD hS hl
      · refine lv_tableIn (tgt := 351) hx hb dL_law_32 (by decide) (by decide) rfl (by decide) ?_
        exact k_splitterOf l hL C0 D ca hK x mm k hk ih2 S n U bb V LL T e1 w hσ WX WM hX hM hw cells slots hc hs H locs ls hP hD hS hl
      · refine lv_tableIn (tgt := 374) hx hb dL_law_32 (by decide) (by decide) rfl (by decide) ?_
        exact k_phaseOf l hL C0 D ca hK x mm k hk ih2 S n U bb V LL T e1 w hσ WX WM hX hM hw cells slots hc hs H locs ls hP hD hS hl
      · refine lv_tableIn (tgt := 397) hx hb dL_law_32 (by decide) (by decide) rfl (by decide) ?_
        exact k_stepsOf l hL C0 D ca hK x mm k hk ih2 S n U bb V LL T e1 w hσ WX WM hX hM hw cells slots hc hs H locs ls hP hD hS hl
      · refine lv_tableIn (tgt := 420) hx hb dL_law_32 (by decide) (by decide) rfl (by decide) ?_
        exact k_soloSteps l hL C0 D ca hK x mm k hk ih2 S n U bb V LL T e1 w hσ WX WM hX hM hw cells slots hc hs H locs ls hP hD hS hl
      · refine lv_tableIn (tgt := 443) hx hb dL_law_32 (by decide) (by decide) rfl (by decide) ?_
        exact k_soloName l hL C0 D ca hK x mm k hk ih2 S n U bb V LL T e1 w hσ WX WM hX hM hw cells slots hc hs H locs ls hP hD hS hl
      · refine lv_tableIn (tgt := 466) hx hb dL_law_32 (by decide) (by decide) rfl (by decide) ?_
        exact k_owner l hL C0 D ca hK x mm k hk ih2 S n U bb V LL T e1 w hσ WX WM hX hM hw cells slots hc hs H locs ls hP hD hS hl
      · refine lv_tableIn (tgt := 489) hx hb dL_law_32 (by decide) (by decide) rfl (by decide) ?_
        exact k_door l hL C0 D ca hK x mm k hk ih2 S n U bb V LL T e1 w hσ WX WM hX hM hw cells slots hc hs H locs ls hP hD hS hl
      · refine lv_tableIn (tgt := 512) hx hb dL_law_32 (by decide) (by decide) rfl (by decide) ?_
        exact k_entered l hL C0 D ca hK x mm k hk ih2 S n U bb V LL T e1 w hσ WX WM hX hM hw cells slots hc hs H locs ls hP hD hS hl
      · refine lv_tableIn (tgt := 535) hx hb dL_law_32 (by decide) (by decide) rfl (by decide) ?_
        exact k_left l hL C0 D ca hK x mm k hk ih2 S n U bb V LL T e1 w hσ WX WM hX hM hw cells slots hc hs H locs ls hP hD hS hl
      · refine lv_tableIn (tgt := 568) hx hb dL_law_32 (by decide) (by decide) rfl (by decide) ?_
        exact k_explore l hL C0 D ca hK x mm k hk ih2 S n U bb V LL T e1 w hσ WX WM hX hM hw cells slots hc hs H locs ls hP hD hS hl
      · refine lv_tableIn (tgt := 581) hx hb dL_law_32 (by decide) (by decide) rfl (by decide) ?_
        exact k_finalCount l hL C0 D ca hK x mm k hk ih2 S n U bb V LL T e1 w hσ WX WM hX hM hw cells slots hc hs H locs ls hP hD hS hl
      · refine lv_tableIn (tgt := 594) hx hb dL_law_32 (by decide) (by decide) rfl (by decide) ?_
        exact k_violationCount l hL C0 D ca hK x mm k hk ih2 S n U bb V LL T e1 w hσ WX WM hX hM hw cells slots hc hs H locs ls hP hD hS hl
      · refine lv_tableIn (tgt := 607) hx hb dL_law_32 (by decide) (by decide) rfl (by decide) ?_
        exact k_violationStep l hL C0 D ca hK x mm k hk ih2 S n U bb V LL T e1 w hσ WX WM hX hM hw cells slots hc hs H locs ls hP hD hS hl
      · refine lv_tableIn (tgt := 630) hx hb dL_law_32 (by decide) (by decide) rfl (by decide) ?_
        exact k_greatestDepth l hL C0 D ca hK x mm k hk ih2 S n U bb V LL T e1 w hσ WX WM hX hM hw cells slots hc hs H locs ls hP hD hS hl
      · refine lv_tableIn (tgt := 643) hx hb dL_law_32 (by decide) (by decide) rfl (by decide) ?_
        exact k_greatestName l hL C0 D ca hK x mm k hk ih2 S n U bb V LL T e1 w hσ WX WM hX hM hw cells slots hc hs H locs ls hP hD hS hl
      · refine lv_tableIn (tgt := 656) hx hb dL_law_32 (by decide) (by decide) rfl (by decide) ?_
        exact k_outcomeCount l hL C0 D ca hK x mm k hk ih2 S n U bb V LL T e1 w hσ WX WM hX hM hw cells slots hc hs H locs ls hP hD hS hl
      · refine lv_tableIn (tgt := 669) hx hb dL_law_32 (by decide) (by decide) rfl (by decide) ?_
        exact k_finalsWith l hL C0 D ca hK x mm k hk ih2 S n U bb V LL T e1 w hσ WX WM hX hM hw cells slots hc hs H locs ls hP hD hS hl
      · refine lv_tableIn (tgt := 702) hx hb dL_law_32 (by decide) (by decide) rfl (by decide) ?_
        exact k_undo l hL C0 D ca hK x mm k hk ih2 S n U bb V LL T e1 w hσ WX WM hX hM hw cells slots hc hs H locs ls hP hD hS hl
      · refine lv_tableIn (tgt := 715) hx hb dL_law_32 (by decide) (by decide) rfl (by decide) ?_
        exact k_save l hL C0 D ca hK x mm k hk ih2 S n U bb V LL T e1 w hσ WX WM hX hM hw cells slots hc hs H locs ls hP hD hS hl
      · refine lv_tableIn (tgt := 738) hx hb dL_law_32 (by decide) (by decide) rfl (by decide) ?_
        exact k_restore l hL C0 D ca hK x mm k hk ih2 S n U bb V LL T e1 w hσ WX WM hX hM hw cells slots hc hs H locs ls hP hD hS hl
      · refine lv_tableOut (tgt := 761) hx hb dL_law_32 (Or.inr (by rw [nI_toInt (by omega)]; omega)) (by decide) ?_
        exact k_next l hL C0 D ca hK x mm k hk ih2 S n U bb V LL T e1 w hσ WX WM hX hM hw cells slots (by omega) (by omega) H locs ls hP hD hS hl
