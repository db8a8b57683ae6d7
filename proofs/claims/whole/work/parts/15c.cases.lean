/-! ===== the law: its cases ===== -/
set_option maxHeartbeats 2000000 in
set_option maxRecDepth 20000 in
theorem k_configure {p : Program} {e : Env} {s : State} {m : MethodId} {below : List Frame} {meth : Method} {c : Code} (l : Launch) {b L : Nat} {xs : Nat → Int32} (hL : L ≤ 2048) (C0 : lw_At p s m meth c b L xs) (D : va_G) (ca : Nat → ClassId) (hK : KK D ca s) (x mm k : Nat) (hk : 4 * k + 4 ≤ L) (ih : LGo p l e s m below meth c b D ca x mm (k + 1)) (S : Nat → Nat) (n : Nat) (U : Nat → Nat → Nat) (bb : Nat → Nat) (V : Nat → Nat → Nat) (LL : Nat) (T : Nat → Nat) (e1 w : Nat) (hσ : SG S n U bb V LL T e1) (WX WM : va_W) (hX : XI ca x S n U bb V LL T e1 w WX) (hM : MI ca mm S n U bb V LL T e1 WM) (hw : w ≤ 1) (cells slots : Nat) (hc : cells + (513 - k) + 6 * (1 - w) ≤ 672241) (hs : slots + 8 * (513 - k) + 20263 * (1 - w) ≤ 7085524) (H : Heap) (locs : List Loc) (ls : Array Slot) (hP : va_P D vwCl (WX ++ WM) H) (hD : va_D (fun q : Nat => s.heap.size ≤ q) (WX ++ WM)) (hS : va_S (fun q : Nat => s.heap.size ≤ q) s.heap H locs) (hl : lv_has ls 4 [(3, .int (nI (4 * k))), (0, .ref b), (1, .ref x), (2, .ref mm)]) : W p l e room_1 s m #[Value.ref b] below meth c H locs cells slots (lw_Z below #[Value.ref b] s) (F0 m 164 ls []) := by
  obtain ⟨hx, hb, hr, hml, hown, hts0, hXs, hbl, hlocks, hgv⟩ := id C0
  have hts : ∀ w ∈ wsL_law, w.before #[Value.ref b] s = true := fun w h => hts0 w (wsL_law_in w h)
  have hA : ∀ q : Nat, s.heap.size ≤ q → (fun q : Nat => s.heap.size ≤ q) q := fun _ h => h
  have hbA : ¬ (fun q : Nat => s.heap.size ≤ q) b := Nat.not_le.mpr hbl
  have hk5 : k < 513 := by omega
  obtain ⟨fs, hfs⟩ := XI_0 hX WM
  refine lv_aload_n hx hb dL_law_164 rfl (lv_at hl 2 rfl) ?_
  refine lv_aload_n hx hb dL_law_165 rfl (lv_at hl 1 rfl) ?_
  refine lv_iload_n hx hb dL_law_166 rfl (lv_at hl 0 rfl) ?_
  refine lv_iconst (v := nI 1) hx hb dL_law_167 (by decide) ?_
  refine n_iadd hx hb dL_law_168 ?_
  refine va_sld hx hb hXs hbl hbA hS (vp_in_nI (by omega) (by omega)) dL_law_169 ?_
  obtain ⟨a1, ha1⟩ : ∃ z, z = xs (nI (4 * k + 1)).toNatClampNeg := ⟨_, rfl⟩
  rw [← ha1]
  refine lv_aload_n hx hb dL_law_170 rfl (lv_at hl 1 rfl) ?_
  refine lv_iload_n hx hb dL_law_171 rfl (lv_at hl 0 rfl) ?_
  refine lv_iconst (v := nI 2) hx hb dL_law_172 (by decide) ?_
  refine n_iadd hx hb dL_law_173 ?_
  refine va_sld hx hb hXs hbl hbA hS (vp_in_nI (by omega) (by omega)) dL_law_174 ?_
  obtain ⟨a2, ha2⟩ : ∃ z, z = xs (nI (4 * k + 2)).toNatClampNeg := ⟨_, rfl⟩
  rw [← ha2]
  refine lv_aload_n hx hb dL_law_175 rfl (lv_at hl 1 rfl) ?_
  refine lv_iload_n hx hb dL_law_176 rfl (lv_at hl 0 rfl) ?_
  refine lv_iconst (v := nI 3) hx hb dL_law_177 (by decide) ?_
  refine n_iadd hx hb dL_law_178 ?_
  refine va_sld hx hb hXs hbl hbA hS (vp_in_nI (by omega) (by omega)) dL_law_179 ?_
  obtain ⟨a3, ha3⟩ : ∃ z, z = xs (nI (4 * k + 3)).toNatClampNeg := ⟨_, rfl⟩
  rw [← ha3]
  refine uVw (nL := 4) (ci := 3) (q0 := 0) (cq := (RX5, TX5, 8)) hx hb hml hown hts hK hA hP hD hS [.int a1, .int a2, .int a3] [] (UP.tail (x_configure l D ca x S n U bb V LL T e1 w hσ a1 a2 a3 WX hX) WM) gL_law_X5_configure rfl ⟨rfl, qX5_configure⟩ ⟨Nat.le_of_ble_eq_true rfl, Nat.le_of_ble_eq_true rfl⟩ rfl hfs rfl hl.1 (Nat.le_of_ble_eq_true rfl) ⟨by show cells + 0 ≤ 672241; omega, by show slots + 0 ≤ 7085524; omega⟩ dL_law_180 (fun v1 W1 H locs hO hP hD hS => ?_)
  obtain ⟨WX2, hO, rfl⟩ := hO
  rcases hO with ⟨rfl, ⟨hok, hX2⟩ | ⟨hok, hX2⟩⟩
  · refine W.eq (g2 := F0 m 183 ls [.int (ansCfg a1 a2 a3)]) rfl ?_
    obtain ⟨hP, hD⟩ := PD_swap hP hD
    obtain ⟨fm, hfm⟩ := MI_0 hM WX2
    refine lv_aload_n hx hb dL_law_183 rfl (lv_at hl 3 rfl) ?_
    refine lv_aload_n hx hb dL_law_184 rfl (lv_at hl 1 rfl) ?_
    refine lv_iload_n hx hb dL_law_185 rfl (lv_at hl 0 rfl) ?_
    refine lv_iconst (v := nI 1) hx hb dL_law_186 (by decide) ?_
    refine n_iadd hx hb dL_law_187 ?_
    refine va_sld hx hb hXs hbl hbA hS (vp_in_nI (by omega) (by omega)) dL_law_188 ?_
    rw [← ha1]
    refine lv_aload_n hx hb dL_law_189 rfl (lv_at hl 1 rfl) ?_
    refine lv_iload_n hx hb dL_law_190 rfl (lv_at hl 0 rfl) ?_
    refine lv_iconst (v := nI 2) hx hb dL_law_191 (by decide) ?_
    refine n_iadd hx hb dL_law_192 ?_
    refine va_sld hx hb hXs hbl hbA hS (vp_in_nI (by omega) (by omega)) dL_law_193 ?_
    rw [← ha2]
    refine lv_aload_n hx hb dL_law_194 rfl (lv_at hl 1 rfl) ?_
    refine lv_iload_n hx hb dL_law_195 rfl (lv_at hl 0 rfl) ?_
    refine lv_iconst (v := nI 3) hx hb dL_law_196 (by decide) ?_
    refine n_iadd hx hb dL_law_197 ?_
    refine va_sld hx hb hXs hbl hbA hS (vp_in_nI (by omega) (by omega)) dL_law_198 ?_
    rw [← ha3]
    refine uVw (nL := 4) (ci := 4) (q0 := 0) (cq := (RX6, TX6, 34)) hx hb hml hown hts hK hA hP hD hS [.int a1, .int a2, .int a3] [.int (ansCfg a1 a2 a3)] (UP.tail (y_configure l D ca mm S n U bb V LL T e1 hσ a1 a2 a3 WM hM) WX2) gL_law_X6_configure rfl ⟨rfl, qX6_configure⟩ ⟨Nat.le_of_ble_eq_true rfl, Nat.le_of_ble_eq_true rfl⟩ rfl hfm rfl hl.1 (Nat.le_of_ble_eq_true rfl) ⟨by show cells + 0 + 0 ≤ 672241; omega, by show slots + 0 + 0 ≤ 7085524; omega⟩ dL_law_199 (fun v1 W1 H locs hO hP hD hS => ?_)
    obtain ⟨WM2, hO, rfl⟩ := hO
    rcases hO with ⟨rfl, ⟨hok2, hM2⟩ | ⟨hok2, hM2⟩⟩
    · refine W.eq (g2 := F0 m 202 ls [.int (ansCfg a1 a2 a3), .int (ansCfg a1 a2 a3)]) rfl ?_
      obtain ⟨hP, hD⟩ := PD_swap hP hD
      refine lv_icmp_eq (tgt := 761) hx hb dL_law_202 (by decide) (fun _ => ?_) (fun c1 => absurd rfl c1)
      exact k_next l hL C0 D ca hK x mm k hk ih (begS a1.toNatClampNeg a2.toNatClampNeg a3.toNatClampNeg) (kpN n) (kU n U S) bb V LL T 0 w (SG_cfg hσ hok) WX2 WM2 hX2 hM2 hw _ _ (by omega) (by omega) H locs ls hP hD hS hl
    · exact absurd hok hok2
  · refine W.eq (g2 := F0 m 183 ls [.int (ansCfg a1 a2 a3)]) rfl ?_
    obtain ⟨hP, hD⟩ := PD_swap hP hD
    obtain ⟨fm, hfm⟩ := MI_0 hM WX2
    refine lv_aload_n hx hb dL_law_183 rfl (lv_at hl 3 rfl) ?_
    refine lv_aload_n hx hb dL_law_184 rfl (lv_at hl 1 rfl) ?_
    refine lv_iload_n hx hb dL_law_185 rfl (lv_at hl 0 rfl) ?_
    refine lv_iconst (v := nI 1) hx hb dL_law_186 (by decide) ?_
    refine n_iadd hx hb dL_law_187 ?_
    refine va_sld hx hb hXs hbl hbA hS (vp_in_nI (by omega) (by omega)) dL_law_188 ?_
    rw [← ha1]
    refine lv_aload_n hx hb dL_law_189 rfl (lv_at hl 1 rfl) ?_
    refine lv_iload_n hx hb dL_law_190 rfl (lv_at hl 0 rfl) ?_
    refine lv_iconst (v := nI 2) hx hb dL_law_191 (by decide) ?_
    refine n_iadd hx hb dL_law_192 ?_
    refine va_sld hx hb hXs hbl hbA hS (vp_in_nI (by omega) (by omega)) dL_law_193 ?_
    rw [← ha2]
    refine lv_aload_n hx hb dL_law_194 rfl (lv_at hl 1 rfl) ?_
    refine lv_iload_n hx hb dL_law_195 rfl (lv_at hl 0 rfl) ?_
    refine lv_iconst (v := nI 3) hx hb dL_law_196 (by decide) ?_
    refine n_iadd hx hb dL_law_197 ?_
    refine va_sld hx hb hXs hbl hbA hS (vp_in_nI (by omega) (by omega)) dL_law_198 ?_
    rw [← ha3]
    refine uVw (nL := 4) (ci := 4) (q0 := 0) (cq := (RX6, TX6, 34)) hx hb hml hown hts hK hA hP hD hS [.int a1, .int a2, .int a3] [.int (ansCfg a1 a2 a3)] (UP.tail (y_configure l D ca mm S n U bb V LL T e1 hσ a1 a2 a3 WM hM) WX2) gL_law_X6_configure rfl ⟨rfl, qX6_configure⟩ ⟨Nat.le_of_ble_eq_true rfl, Nat.le_of_ble_eq_true rfl⟩ rfl hfm rfl hl.1 (Nat.le_of_ble_eq_true rfl) ⟨by show cells + 0 + 0 ≤ 672241; omega, by show slots + 0 + 0 ≤ 7085524; omega⟩ dL_law_199 (fun v1 W1 H locs hO hP hD hS => ?_)
    obtain ⟨WM2, hO, rfl⟩ := hO
    rcases hO with ⟨rfl, ⟨hok2, hM2⟩ | ⟨hok2, hM2⟩⟩
    · exact absurd hok2 hok
    · refine W.eq (g2 := F0 m 202 ls [.int (ansCfg a1 a2 a3), .int (ansCfg a1 a2 a3)]) rfl ?_
      obtain ⟨hP, hD⟩ := PD_swap hP hD
      refine lv_icmp_eq (tgt := 761) hx hb dL_law_202 (by decide) (fun _ => ?_) (fun c1 => absurd rfl c1)
      exact k_next l hL C0 D ca hK x mm k hk ih S n U bb V LL T e1 w (hσ) WX2 WM2 hX2 hM2 hw _ _ (by omega) (by omega) H locs ls hP hD hS hl

set_option maxHeartbeats 2000000 in
set_option maxRecDepth 20000 in
theorem k_nameCount {p : Program} {e : Env} {s : State} {m : MethodId} {below : List Frame} {meth : Method} {c : Code} (l : Launch) {b L : Nat} {xs : Nat → Int32} (hL : L ≤ 2048) (C0 : lw_At p s m meth c b L xs) (D : va_G) (ca : Nat → ClassId) (hK : KK D ca s) (x mm k : Nat) (hk : 4 * k + 4 ≤ L) (ih : LGo p l e s m below meth c b D ca x mm (k + 1)) (S : Nat → Nat) (n : Nat) (U : Nat → Nat → Nat) (bb : Nat → Nat) (V : Nat → Nat → Nat) (LL : Nat) (T : Nat → Nat) (e1 w : Nat) (hσ : SG S n U bb V LL T e1) (WX WM : va_W) (hX : XI ca x S n U bb V LL T e1 w WX) (hM : MI ca mm S n U bb V LL T e1 WM) (hw : w ≤ 1) (cells slots : Nat) (hc : cells + (513 - k) + 6 * (1 - w) ≤ 672241) (hs : slots + 8 * (513 - k) + 20263 * (1 - w) ≤ 7085524) (H : Heap) (locs : List Loc) (ls : Array Slot) (hP : va_P D vwCl (WX ++ WM) H) (hD : va_D (fun q : Nat => s.heap.size ≤ q) (WX ++ WM)) (hS : va_S (fun q : Nat => s.heap.size ≤ q) s.heap H locs) (hl : lv_has ls 4 [(3, .int (nI (4 * k))), (0, .ref b), (1, .ref x), (2, .ref mm)]) : W p l e room_1 s m #[Value.ref b] below meth c H locs cells slots (lw_Z below #[Value.ref b] s) (F0 m 207 ls []) := by
  obtain ⟨hx, hb, hr, hml, hown, hts0, hXs, hbl, hlocks, hgv⟩ := id C0
  have hts : ∀ w ∈ wsL_law, w.before #[Value.ref b] s = true := fun w h => hts0 w (wsL_law_in w h)
  have hA : ∀ q : Nat, s.heap.size ≤ q → (fun q : Nat => s.heap.size ≤ q) q := fun _ h => h
  have hbA : ¬ (fun q : Nat => s.heap.size ≤ q) b := Nat.not_le.mpr hbl
  have hk5 : k < 513 := by omega
  obtain ⟨fs, hfs⟩ := XI_0 hX WM
  refine lv_aload_n hx hb dL_law_207 rfl (lv_at hl 2 rfl) ?_
  refine uVw (nL := 4) (ci := 3) (q0 := 0) (cq := (RX5, TX5, 8)) hx hb hml hown hts hK hA hP hD hS [] [] (UP.tail (x_nameCount l D ca x S n U bb V LL T e1 w hσ WX hX) WM) gL_law_X5_nameCount rfl ⟨rfl, qX5_nameCount⟩ ⟨Nat.le_of_ble_eq_true rfl, Nat.le_of_ble_eq_true rfl⟩ rfl hfs rfl hl.1 (Nat.le_of_ble_eq_true rfl) ⟨by show cells + 0 ≤ 672241; omega, by show slots + 0 ≤ 7085524; omega⟩ dL_law_208 (fun v1 W1 H locs hO hP hD hS => ?_)
  obtain ⟨WX2, hO, rfl⟩ := hO
  obtain ⟨rfl, hX2⟩ := hO
  refine W.eq (g2 := F0 m 211 ls [.int (nI (nmS S))]) rfl ?_
  obtain ⟨hP, hD⟩ := PD_swap hP hD
  obtain ⟨fm, hfm⟩ := MI_0 hM WX2
  refine lv_aload_n hx hb dL_law_211 rfl (lv_at hl 3 rfl) ?_
  refine uVw (nL := 4) (ci := 4) (q0 := 0) (cq := (RX6, TX6, 34)) hx hb hml hown hts hK hA hP hD hS [] [.int (nI (nmS S))] (UP.tail (y_nameCount l D ca mm S n U bb V LL T e1 hσ WM hM) WX2) gL_law_X6_nameCount rfl ⟨rfl, qX6_nameCount⟩ ⟨Nat.le_of_ble_eq_true rfl, Nat.le_of_ble_eq_true rfl⟩ rfl hfm rfl hl.1 (Nat.le_of_ble_eq_true rfl) ⟨by show cells + 0 + 0 ≤ 672241; omega, by show slots + 0 + 0 ≤ 7085524; omega⟩ dL_law_212 (fun v1 W1 H locs hO hP hD hS => ?_)
  obtain ⟨WM2, hO, rfl⟩ := hO
  obtain ⟨rfl, hM2⟩ := hO
  refine W.eq (g2 := F0 m 215 ls [.int (nI (nmS S)), .int (nI (nmS S))]) rfl ?_
  obtain ⟨hP, hD⟩ := PD_swap hP hD
  refine lv_icmp_eq (tgt := 761) hx hb dL_law_215 (by decide) (fun _ => ?_) (fun c1 => absurd rfl c1)
  exact k_next l hL C0 D ca hK x mm k hk ih S n U bb V LL T e1 w (hσ) WX2 WM2 hX2 hM2 hw _ _ (by omega) (by omega) H locs ls hP hD hS hl

set_option maxHeartbeats 2000000 in
set_option maxRecDepth 20000 in
theorem k_processCount {p : Program} {e : Env} {s : State} {m : MethodId} {below : List Frame} {meth : Method} {c : Code} (l : Launch) {b L : Nat} {xs : Nat → Int32} (hL : L ≤ 2048) (C0 : lw_At p s m meth c b L xs) (D : va_G) (ca : Nat → ClassId) (hK : KK D ca s) (x mm k : Nat) (hk : 4 * k + 4 ≤ L) (ih : LGo p l e s m below meth c b D ca x mm (k + 1)) (S : Nat → Nat) (n : Nat) (U : Nat → Nat → Nat) (bb : Nat → Nat) (V : Nat → Nat → Nat) (LL : Nat) (T : Nat → Nat) (e1 w : Nat) (hσ : SG S n U bb V LL T e1) (WX WM : va_W) (hX : XI ca x S n U bb V LL T e1 w WX) (hM : MI ca mm S n U bb V LL T e1 WM) (hw : w ≤ 1) (cells slots : Nat) (hc : cells + (513 - k) + 6 * (1 - w) ≤ 672241) (hs : slots + 8 * (513 - k) + 20263 * (1 - w) ≤ 7085524) (H : Heap) (locs : List Loc) (ls : Array Slot) (hP : va_P D vwCl (WX ++ WM) H) (hD : va_D (fun q : Nat => s.heap.size ≤ q) (WX ++ WM)) (hS : va_S (fun q : Nat => s.heap.size ≤ q) s.heap H locs) (hl : lv_has ls 4 [(3, .int (nI (4 * k))), (0, .ref b), (1, .ref x), (2, .ref mm)]) : W p l e room_1 s m #[Value.ref b] below meth c H locs cells slots (lw_Z below #[Value.ref b] s) (F0 m 220 ls []) := by
  obtain ⟨hx, hb, hr, hml, hown, hts0, hXs, hbl, hlocks, hgv⟩ := id C0
  have hts : ∀ w ∈ wsL_law, w.before #[Value.ref b] s = true := fun w h => hts0 w (wsL_law_in w h)
  have hA : ∀ q : Nat, s.heap.size ≤ q → (fun q : Nat => s.heap.size ≤ q) q := fun _ h => h
  have hbA : ¬ (fun q : Nat => s.heap.size ≤ q) b := Nat.not_le.mpr hbl
  have hk5 : k < 513 := by omega
  obtain ⟨fs, hfs⟩ := XI_0 hX WM
  refine lv_aload_n hx hb dL_law_220 rfl (lv_at hl 2 rfl) ?_
  refine uVw (nL := 4) (ci := 3) (q0 := 0) (cq := (RX5, TX5, 8)) hx hb hml hown hts hK hA hP hD hS [] [] (UP.tail (x_processCount l D ca x S n U bb V LL T e1 w hσ WX hX) WM) gL_law_X5_processCount rfl ⟨rfl, qX5_processCount⟩ ⟨Nat.le_of_ble_eq_true rfl, Nat.le_of_ble_eq_true rfl⟩ rfl hfs rfl hl.1 (Nat.le_of_ble_eq_true rfl) ⟨by show cells + 0 ≤ 672241; omega, by show slots + 0 ≤ 7085524; omega⟩ dL_law_221 (fun v1 W1 H locs hO hP hD hS => ?_)
  obtain ⟨WX2, hO, rfl⟩ := hO
  obtain ⟨rfl, hX2⟩ := hO
  refine W.eq (g2 := F0 m 224 ls [.int (nI (S 1))]) rfl ?_
  obtain ⟨hP, hD⟩ := PD_swap hP hD
  obtain ⟨fm, hfm⟩ := MI_0 hM WX2
  refine lv_aload_n hx hb dL_law_224 rfl (lv_at hl 3 rfl) ?_
  refine uVw (nL := 4) (ci := 4) (q0 := 0) (cq := (RX6, TX6, 34)) hx hb hml hown hts hK hA hP hD hS [] [.int (nI (S 1))] (UP.tail (y_processCount l D ca mm S n U bb V LL T e1 hσ WM hM) WX2) gL_law_X6_processCount rfl ⟨rfl, qX6_processCount⟩ ⟨Nat.le_of_ble_eq_true rfl, Nat.le_of_ble_eq_true rfl⟩ rfl hfm rfl hl.1 (Nat.le_of_ble_eq_true rfl) ⟨by show cells + 0 + 0 ≤ 672241; omega, by show slots + 0 + 0 ≤ 7085524; omega⟩ dL_law_225 (fun v1 W1 H locs hO hP hD hS => ?_)
  obtain ⟨WM2, hO, rfl⟩ := hO
  obtain ⟨rfl, hM2⟩ := hO
  refine W.eq (g2 := F0 m 228 ls [.int (nI (S 1)), .int (nI (S 1))]) rfl ?_
  obtain ⟨hP, hD⟩ := PD_swap hP hD
  refine lv_icmp_eq (tgt := 761) hx hb dL_law_228 (by decide) (fun _ => ?_) (fun c1 => absurd rfl c1)
  exact k_next l hL C0 D ca hK x mm k hk ih S n U bb V LL T e1 w (hσ) WX2 WM2 hX2 hM2 hw _ _ (by omega) (by omega) H locs ls hP hD hS hl

set_option maxHeartbeats 2000000 in
set_option maxRecDepth 20000 in
theorem k_step {p : Program} {e : Env} {s : State} {m : MethodId} {below : List Frame} {meth : Method} {c : Code} (l : Launch) {b L : Nat} {xs : Nat → Int32} (hL : L ≤ 2048) (C0 : lw_At p s m meth c b L xs) (D : va_G) (ca : Nat → ClassId) (hK : KK D ca s) (x mm k : Nat) (hk : 4 * k + 4 ≤ L) (ih : LGo p l e s m below meth c b D ca x mm (k + 1)) (S : Nat → Nat) (n : Nat) (U : Nat → Nat → Nat) (bb : Nat → Nat) (V : Nat → Nat → Nat) (LL : Nat) (T : Nat → Nat) (e1 w : Nat) (hσ : SG S n U bb V LL T e1) (WX WM : va_W) (hX : XI ca x S n U bb V LL T e1 w WX) (hM : MI ca mm S n U bb V LL T e1 WM) (hw : w ≤ 1) (cells slots : Nat) (hc : cells + (513 - k) + 6 * (1 - w) ≤ 672241) (hs : slots + 8 * (513 - k) + 20263 * (1 - w) ≤ 7085524) (H : Heap) (locs : List Loc) (ls : Array Slot) (hP : va_P D vwCl (WX ++ WM) H) (hD : va_D (fun q : Nat => s.heap.size ≤ q) (WX ++ WM)) (hS : va_S (fun q : Nat => s.heap.size ≤ q) s.heap H locs) (hl : lv_has ls 4 [(3, .int (nI (4 * k))), (0, .ref b), (1, .ref x), (2, .ref mm)]) : W p l e room_1 s m #[Value.ref b] below meth c H locs cells slots (lw_Z below #[Value.ref b] s) (F0 m 233 ls []) := by
  obtain ⟨hx, hb, hr, hml, hown, hts0, hXs, hbl, hlocks, hgv⟩ := id C0
  have hts : ∀ w ∈ wsL_law, w.before #[Value.ref b] s = true := fun w h => hts0 w (wsL_law_in w h)
  have hA : ∀ q : Nat, s.heap.size ≤ q → (fun q : Nat => s.heap.size ≤ q) q := fun _ h => h
  have hbA : ¬ (fun q : Nat => s.heap.size ≤ q) b := Nat.not_le.mpr hbl
  have hk5 : k < 513 := by omega
  obtain ⟨fs, hfs⟩ := XI_0 hX WM
  refine lv_aload_n hx hb dL_law_233 rfl (lv_at hl 2 rfl) ?_
  refine lv_aload_n hx hb dL_law_234 rfl (lv_at hl 1 rfl) ?_
  refine lv_iload_n hx hb dL_law_235 rfl (lv_at hl 0 rfl) ?_
  refine lv_iconst (v := nI 1) hx hb dL_law_236 (by decide) ?_
  refine n_iadd hx hb dL_law_237 ?_
  refine va_sld hx hb hXs hbl hbA hS (vp_in_nI (by omega) (by omega)) dL_law_238 ?_
  obtain ⟨a1, ha1⟩ : ∃ z, z = xs (nI (4 * k + 1)).toNatClampNeg := ⟨_, rfl⟩
  rw [← ha1]
  refine uVw (nL := 4) (ci := 3) (q0 := 0) (cq := (RX5, TX5, 8)) hx hb hml hown hts hK hA hP hD hS [.int a1] [] (UP.tail (x_step l D ca x S n U bb V LL T e1 w hσ a1 WX hX) WM) gL_law_X5_step rfl ⟨rfl, qX5_step⟩ ⟨Nat.le_of_ble_eq_true rfl, Nat.le_of_ble_eq_true rfl⟩ rfl hfs rfl hl.1 (Nat.le_of_ble_eq_true rfl) ⟨by show cells + 0 ≤ 672241; omega, by show slots + 0 ≤ 7085524; omega⟩ dL_law_239 (fun v1 W1 H locs hO hP hD hS => ?_)
  obtain ⟨WX2, hO, rfl⟩ := hO
  rcases hO with ⟨rfl, ⟨hok, hX2⟩ | ⟨hok, hX2⟩⟩
  · refine W.eq (g2 := F0 m 242 ls [.int (ansStep S a1)]) rfl ?_
    obtain ⟨hP, hD⟩ := PD_swap hP hD
    obtain ⟨fm, hfm⟩ := MI_0 hM WX2
    refine lv_aload_n hx hb dL_law_242 rfl (lv_at hl 3 rfl) ?_
    refine lv_aload_n hx hb dL_law_243 rfl (lv_at hl 1 rfl) ?_
    refine lv_iload_n hx hb dL_law_244 rfl (lv_at hl 0 rfl) ?_
    refine lv_iconst (v := nI 1) hx hb dL_law_245 (by decide) ?_
    refine n_iadd hx hb dL_law_246 ?_
    refine va_sld hx hb hXs hbl hbA hS (vp_in_nI (by omega) (by omega)) dL_law_247 ?_
    rw [← ha1]
    refine uVw (nL := 4) (ci := 4) (q0 := 0) (cq := (RX6, TX6, 34)) hx hb hml hown hts hK hA hP hD hS [.int a1] [.int (ansStep S a1)] (UP.tail (y_step l D ca mm S n U bb V LL T e1 hσ a1 WM hM) WX2) gL_law_X6_step rfl ⟨rfl, qX6_step⟩ ⟨Nat.le_of_ble_eq_true rfl, Nat.le_of_ble_eq_true rfl⟩ rfl hfm rfl hl.1 (Nat.le_of_ble_eq_true rfl) ⟨by show cells + 0 + 0 ≤ 672241; omega, by show slots + 0 + 0 ≤ 7085524; omega⟩ dL_law_248 (fun v1 W1 H locs hO hP hD hS => ?_)
    obtain ⟨WM2, hO, rfl⟩ := hO
    rcases hO with ⟨rfl, ⟨hok2, hM2⟩ | ⟨hok2, hM2⟩⟩
    · refine W.eq (g2 := F0 m 251 ls [.int (ansStep S a1), .int (ansStep S a1)]) rfl ?_
      obtain ⟨hP, hD⟩ := PD_swap hP hD
      refine lv_icmp_eq (tgt := 761) hx hb dL_law_251 (by decide) (fun _ => ?_) (fun c1 => absurd rfl c1)
      exact k_next l hL C0 D ca hK x mm k hk ih (advS S a1.toNatClampNeg) (kpN n) (kU n U S) bb V LL T 0 w (SG_st hσ hok) WX2 WM2 hX2 hM2 hw _ _ (by omega) (by omega) H locs ls hP hD hS hl
    · exact absurd hok hok2
  · refine W.eq (g2 := F0 m 242 ls [.int (ansStep S a1)]) rfl ?_
    obtain ⟨hP, hD⟩ := PD_swap hP hD
    obtain ⟨fm, hfm⟩ := MI_0 hM WX2
    refine lv_aload_n hx hb dL_law_242 rfl (lv_at hl 3 rfl) ?_
    refine lv_aload_n hx hb dL_law_243 rfl (lv_at hl 1 rfl) ?_
    refine lv_iload_n hx hb dL_law_244 rfl (lv_at hl 0 rfl) ?_
    refine lv_iconst (v := nI 1) hx hb dL_law_245 (by decide) ?_
    refine n_iadd hx hb dL_law_246 ?_
    refine va_sld hx hb hXs hbl hbA hS (vp_in_nI (by omega) (by omega)) dL_law_247 ?_
    rw [← ha1]
    refine uVw (nL := 4) (ci := 4) (q0 := 0) (cq := (RX6, TX6, 34)) hx hb hml hown hts hK hA hP hD hS [.int a1] [.int (ansStep S a1)] (UP.tail (y_step l D ca mm S n U bb V LL T e1 hσ a1 WM hM) WX2) gL_law_X6_step rfl ⟨rfl, qX6_step⟩ ⟨Nat.le_of_ble_eq_true rfl, Nat.le_of_ble_eq_true rfl⟩ rfl hfm rfl hl.1 (Nat.le_of_ble_eq_true rfl) ⟨by show cells + 0 + 0 ≤ 672241; omega, by show slots + 0 + 0 ≤ 7085524; omega⟩ dL_law_248 (fun v1 W1 H locs hO hP hD hS => ?_)
    obtain ⟨WM2, hO, rfl⟩ := hO
    rcases hO with ⟨rfl, ⟨hok2, hM2⟩ | ⟨hok2, hM2⟩⟩
    · exact absurd hok2 hok
    · refine W.eq (g2 := F0 m 251 ls [.int (ansStep S a1), .int (ansStep S a1)]) rfl ?_
      obtain ⟨hP, hD⟩ := PD_swap hP hD
      refine lv_icmp_eq (tgt := 761) hx hb dL_law_251 (by decide) (fun _ => ?_) (fun c1 => absurd rfl c1)
      exact k_next l hL C0 D ca hK x mm k hk ih S n U bb V LL T e1 w (hσ) WX2 WM2 hX2 hM2 hw _ _ (by omega) (by omega) H locs ls hP hD hS hl

set_option maxHeartbeats 2000000 in
set_option maxRecDepth 20000 in
theorem k_crash {p : Program} {e : Env} {s : State} {m : MethodId} {below : List Frame} {meth : Method} {c : Code} (l : Launch) {b L : Nat} {xs : Nat → Int32} (hL : L ≤ 2048) (C0 : lw_At p s m meth c b L xs) (D : va_G) (ca : Nat → ClassId) (hK : KK D ca s) (x mm k : Nat) (hk : 4 * k + 4 ≤ L) (ih : LGo p l e s m below meth c b D ca x mm (k + 1)) (S : Nat → Nat) (n : Nat) (U : Nat → Nat → Nat) (bb : Nat → Nat) (V : Nat → Nat → Nat) (LL : Nat) (T : Nat → Nat) (e1 w : Nat) (hσ : SG S n U bb V LL T e1) (WX WM : va_W) (hX : XI ca x S n U bb V LL T e1 w WX) (hM : MI ca mm S n U bb V LL T e1 WM) (hw : w ≤ 1) (cells slots : Nat) (hc : cells + (513 - k) + 6 * (1 - w) ≤ 672241) (hs : slots + 8 * (513 - k) + 20263 * (1 - w) ≤ 7085524) (H : Heap) (locs : List Loc) (ls : Array Slot) (hP : va_P D vwCl (WX ++ WM) H) (hD : va_D (fun q : Nat => s.heap.size ≤ q) (WX ++ WM)) (hS : va_S (fun q : Nat => s.heap.size ≤ q) s.heap H locs) (hl : lv_has ls 4 [(3, .int (nI (4 * k))), (0, .ref b), (1, .ref x), (2, .ref mm)]) : W p l e room_1 s m #[Value.ref b] below meth c H locs cells slots (lw_Z below #[Value.ref b] s) (F0 m 256 ls []) := by
  obtain ⟨hx, hb, hr, hml, hown, hts0, hXs, hbl, hlocks, hgv⟩ := id C0
  have hts : ∀ w ∈ wsL_law, w.before #[Value.ref b] s = true := fun w h => hts0 w (wsL_law_in w h)
  have hA : ∀ q : Nat, s.heap.size ≤ q → (fun q : Nat => s.heap.size ≤ q) q := fun _ h => h
  have hbA : ¬ (fun q : Nat => s.heap.size ≤ q) b := Nat.not_le.mpr hbl
  have hk5 : k < 513 := by omega
  obtain ⟨fs, hfs⟩ := XI_0 hX WM
  refine lv_aload_n hx hb dL_law_256 rfl (lv_at hl 2 rfl) ?_
  refine lv_aload_n hx hb dL_law_257 rfl (lv_at hl 1 rfl) ?_
  refine lv_iload_n hx hb dL_law_258 rfl (lv_at hl 0 rfl) ?_
  refine lv_iconst (v := nI 1) hx hb dL_law_259 (by decide) ?_
  refine n_iadd hx hb dL_law_260 ?_
  refine va_sld hx hb hXs hbl hbA hS (vp_in_nI (by omega) (by omega)) dL_law_261 ?_
  obtain ⟨a1, ha1⟩ : ∃ z, z = xs (nI (4 * k + 1)).toNatClampNeg := ⟨_, rfl⟩
  rw [← ha1]
  refine uVw (nL := 4) (ci := 3) (q0 := 0) (cq := (RX5, TX5, 8)) hx hb hml hown hts hK hA hP hD hS [.int a1] [] (UP.tail (x_crash l D ca x S n U bb V LL T e1 w hσ a1 WX hX) WM) gL_law_X5_crash rfl ⟨rfl, qX5_crash⟩ ⟨Nat.le_of_ble_eq_true rfl, Nat.le_of_ble_eq_true rfl⟩ rfl hfs rfl hl.1 (Nat.le_of_ble_eq_true rfl) ⟨by show cells + 0 ≤ 672241; omega, by show slots + 0 ≤ 7085524; omega⟩ dL_law_262 (fun v1 W1 H locs hO hP hD hS => ?_)
  obtain ⟨WX2, hO, rfl⟩ := hO
  rcases hO with ⟨rfl, ⟨hok, hX2⟩ | ⟨hok, hX2⟩⟩
  · refine W.eq (g2 := F0 m 265 ls [.int (ansCrash S a1)]) rfl ?_
    obtain ⟨hP, hD⟩ := PD_swap hP hD
    obtain ⟨fm, hfm⟩ := MI_0 hM WX2
    refine lv_aload_n hx hb dL_law_265 rfl (lv_at hl 3 rfl) ?_
    refine lv_aload_n hx hb dL_law_266 rfl (lv_at hl 1 rfl) ?_
    refine lv_iload_n hx hb dL_law_267 rfl (lv_at hl 0 rfl) ?_
    refine lv_iconst (v := nI 1) hx hb dL_law_268 (by decide) ?_
    refine n_iadd hx hb dL_law_269 ?_
    refine va_sld hx hb hXs hbl hbA hS (vp_in_nI (by omega) (by omega)) dL_law_270 ?_
    rw [← ha1]
    refine uVw (nL := 4) (ci := 4) (q0 := 0) (cq := (RX6, TX6, 34)) hx hb hml hown hts hK hA hP hD hS [.int a1] [.int (ansCrash S a1)] (UP.tail (y_crash l D ca mm S n U bb V LL T e1 hσ a1 WM hM) WX2) gL_law_X6_crash rfl ⟨rfl, qX6_crash⟩ ⟨Nat.le_of_ble_eq_true rfl, Nat.le_of_ble_eq_true rfl⟩ rfl hfm rfl hl.1 (Nat.le_of_ble_eq_true rfl) ⟨by show cells + 0 + 0 ≤ 672241; omega, by show slots + 0 + 0 ≤ 7085524; omega⟩ dL_law_271 (fun v1 W1 H locs hO hP hD hS => ?_)
    obtain ⟨WM2, hO, rfl⟩ := hO
    rcases hO with ⟨rfl, ⟨hok2, hM2⟩ | ⟨hok2, hM2⟩⟩
    · refine W.eq (g2 := F0 m 274 ls [.int (ansCrash S a1), .int (ansCrash S a1)]) rfl ?_
      obtain ⟨hP, hD⟩ := PD_swap hP hD
      refine lv_icmp_eq (tgt := 761) hx hb dL_law_274 (by decide) (fun _ => ?_) (fun c1 => absurd rfl c1)
      exact k_next l hL C0 D ca hK x mm k hk ih (crsS S a1.toNatClampNeg) (kpN n) (kU n U S) bb V LL T 0 w (SG_cr hσ hok) WX2 WM2 hX2 hM2 hw _ _ (by omega) (by omega) H locs ls hP hD hS hl
    · exact absurd hok hok2
  · refine W.eq (g2 := F0 m 265 ls [.int (ansCrash S a1)]) rfl ?_
    obtain ⟨hP, hD⟩ := PD_swap hP hD
    obtain ⟨fm, hfm⟩ := MI_0 hM WX2
    refine lv_aload_n hx hb dL_law_265 rfl (lv_at hl 3 rfl) ?_
    refine lv_aload_n hx hb dL_law_266 rfl (lv_at hl 1 rfl) ?_
    refine lv_iload_n hx hb dL_law_267 rfl (lv_at hl 0 rfl) ?_
    refine lv_iconst (v := nI 1) hx hb dL_law_268 (by decide) ?_
    refine n_iadd hx hb dL_law_269 ?_
    refine va_sld hx hb hXs hbl hbA hS (vp_in_nI (by omega) (by omega)) dL_law_270 ?_
    rw [← ha1]
    refine uVw (nL := 4) (ci := 4) (q0 := 0) (cq := (RX6, TX6, 34)) hx hb hml hown hts hK hA hP hD hS [.int a1] [.int (ansCrash S a1)] (UP.tail (y_crash l D ca mm S n U bb V LL T e1 hσ a1 WM hM) WX2) gL_law_X6_crash rfl ⟨rfl, qX6_crash⟩ ⟨Nat.le_of_ble_eq_true rfl, Nat.le_of_ble_eq_true rfl⟩ rfl hfm rfl hl.1 (Nat.le_of_ble_eq_true rfl) ⟨by show cells + 0 + 0 ≤ 672241; omega, by show slots + 0 + 0 ≤ 7085524; omega⟩ dL_law_271 (fun v1 W1 H locs hO hP hD hS => ?_)
    obtain ⟨WM2, hO, rfl⟩ := hO
    rcases hO with ⟨rfl, ⟨hok2, hM2⟩ | ⟨hok2, hM2⟩⟩
    · exact absurd hok2 hok
    · refine W.eq (g2 := F0 m 274 ls [.int (ansCrash S a1), .int (ansCrash S a1)]) rfl ?_
      obtain ⟨hP, hD⟩ := PD_swap hP hD
      refine lv_icmp_eq (tgt := 761) hx hb dL_law_274 (by decide) (fun _ => ?_) (fun c1 => absurd rfl c1)
      exact k_next l hL C0 D ca hK x mm k hk ih S n U bb V LL T e1 w (hσ) WX2 WM2 hX2 hM2 hw _ _ (by omega) (by omega) H locs ls hP hD hS hl

set_option maxHeartbeats 2000000 in
set_option maxRecDepth 20000 in
theorem k_append {p : Program} {e : Env} {s : State} {m : MethodId} {below : List Frame} {meth : Method} {c : Code} (l : Launch) {b L : Nat} {xs : Nat → Int32} (hL : L ≤ 2048) (C0 : lw_At p s m meth c b L xs) (D : va_G) (ca : Nat → ClassId) (hK : KK D ca s) (x mm k : Nat) (hk : 4 * k + 4 ≤ L) (ih : LGo p l e s m below meth c b D ca x mm (k + 1)) (S : Nat → Nat) (n : Nat) (U : Nat → Nat → Nat) (bb : Nat → Nat) (V : Nat → Nat → Nat) (LL : Nat) (T : Nat → Nat) (e1 w : Nat) (hσ : SG S n U bb V LL T e1) (WX WM : va_W) (hX : XI ca x S n U bb V LL T e1 w WX) (hM : MI ca mm S n U bb V LL T e1 WM) (hw : w ≤ 1) (cells slots : Nat) (hc : cells + (513 - k) + 6 * (1 - w) ≤ 672241) (hs : slots + 8 * (513 - k) + 20263 * (1 - w) ≤ 7085524) (H : Heap) (locs : List Loc) (ls : Array Slot) (hP : va_P D vwCl (WX ++ WM) H) (hD : va_D (fun q : Nat => s.heap.size ≤ q) (WX ++ WM)) (hS : va_S (fun q : Nat => s.heap.size ≤ q) s.heap H locs) (hl : lv_has ls 4 [(3, .int (nI (4 * k))), (0, .ref b), (1, .ref x), (2, .ref mm)]) : W p l e room_1 s m #[Value.ref b] below meth c H locs cells slots (lw_Z below #[Value.ref b] s) (F0 m 279 ls []) := by
  obtain ⟨hx, hb, hr, hml, hown, hts0, hXs, hbl, hlocks, hgv⟩ := id C0
  have hts : ∀ w ∈ wsL_law, w.before #[Value.ref b] s = true := fun w h => hts0 w (wsL_law_in w h)
  have hA : ∀ q : Nat, s.heap.size ≤ q → (fun q : Nat => s.heap.size ≤ q) q := fun _ h => h
  have hbA : ¬ (fun q : Nat => s.heap.size ≤ q) b := Nat.not_le.mpr hbl
  have hk5 : k < 513 := by omega
  obtain ⟨fs, hfs⟩ := XI_0 hX WM
  refine lv_aload_n hx hb dL_law_279 rfl (lv_at hl 2 rfl) ?_
  refine lv_aload_n hx hb dL_law_280 rfl (lv_at hl 1 rfl) ?_
  refine lv_iload_n hx hb dL_law_281 rfl (lv_at hl 0 rfl) ?_
  refine lv_iconst (v := nI 1) hx hb dL_law_282 (by decide) ?_
  refine n_iadd hx hb dL_law_283 ?_
  refine va_sld hx hb hXs hbl hbA hS (vp_in_nI (by omega) (by omega)) dL_law_284 ?_
  obtain ⟨a1, ha1⟩ : ∃ z, z = xs (nI (4 * k + 1)).toNatClampNeg := ⟨_, rfl⟩
  rw [← ha1]
  refine uVw (nL := 4) (ci := 3) (q0 := 0) (cq := (RX5, TX5, 8)) hx hb hml hown hts hK hA hP hD hS [.int a1] [] (UP.tail (x_append l D ca x S n U bb V LL T e1 w hσ a1 WX hX) WM) gL_law_X5_append rfl ⟨rfl, qX5_append⟩ ⟨Nat.le_of_ble_eq_true rfl, Nat.le_of_ble_eq_true rfl⟩ rfl hfs rfl hl.1 (Nat.le_of_ble_eq_true rfl) ⟨by show cells + 0 ≤ 672241; omega, by show slots + 0 ≤ 7085524; omega⟩ dL_law_285 (fun v1 W1 H locs hO hP hD hS => ?_)
  obtain ⟨WX2, hO, rfl⟩ := hO
  rcases hO with ⟨rfl, ⟨hok, hX2⟩ | ⟨hok, hX2⟩⟩
  · refine W.eq (g2 := F0 m 288 ls [.int (ansApp LL a1)]) rfl ?_
    obtain ⟨hP, hD⟩ := PD_swap hP hD
    obtain ⟨fm, hfm⟩ := MI_0 hM WX2
    refine lv_aload_n hx hb dL_law_288 rfl (lv_at hl 3 rfl) ?_
    refine lv_aload_n hx hb dL_law_289 rfl (lv_at hl 1 rfl) ?_
    refine lv_iload_n hx hb dL_law_290 rfl (lv_at hl 0 rfl) ?_
    refine lv_iconst (v := nI 1) hx hb dL_law_291 (by decide) ?_
    refine n_iadd hx hb dL_law_292 ?_
    refine va_sld hx hb hXs hbl hbA hS (vp_in_nI (by omega) (by omega)) dL_law_293 ?_
    rw [← ha1]
    refine uVw (nL := 4) (ci := 4) (q0 := 0) (cq := (RX6, TX6, 34)) hx hb hml hown hts hK hA hP hD hS [.int a1] [.int (ansApp LL a1)] (UP.tail (y_append l D ca mm S n U bb V LL T e1 hσ a1 WM hM) WX2) gL_law_X6_append rfl ⟨rfl, qX6_append⟩ ⟨Nat.le_of_ble_eq_true rfl, Nat.le_of_ble_eq_true rfl⟩ rfl hfm rfl hl.1 (Nat.le_of_ble_eq_true rfl) ⟨by show cells + 0 + 0 ≤ 672241; omega, by show slots + 0 + 0 ≤ 7085524; omega⟩ dL_law_294 (fun v1 W1 H locs hO hP hD hS => ?_)
    obtain ⟨WM2, hO, rfl⟩ := hO
    rcases hO with ⟨rfl, ⟨hok2, hM2⟩ | ⟨hok2, hM2⟩⟩
    · refine W.eq (g2 := F0 m 297 ls [.int (ansApp LL a1), .int (ansApp LL a1)]) rfl ?_
      obtain ⟨hP, hD⟩ := PD_swap hP hD
      refine lv_icmp_eq (tgt := 761) hx hb dL_law_297 (by decide) (fun _ => ?_) (fun c1 => absurd rfl c1)
      exact k_next l hL C0 D ca hK x mm k hk ih S n U bb V (LL + 1) (va_up T LL a1.toNatClampNeg) e1 w (SG_ap hσ hok) WX2 WM2 hX2 hM2 hw _ _ (by omega) (by omega) H locs ls hP hD hS hl
    · exact absurd hok hok2
  · refine W.eq (g2 := F0 m 288 ls [.int (ansApp LL a1)]) rfl ?_
    obtain ⟨hP, hD⟩ := PD_swap hP hD
    obtain ⟨fm, hfm⟩ := MI_0 hM WX2
    refine lv_aload_n hx hb dL_law_288 rfl (lv_at hl 3 rfl) ?_
    refine lv_aload_n hx hb dL_law_289 rfl (lv_at hl 1 rfl) ?_
    refine lv_iload_n hx hb dL_law_290 rfl (lv_at hl 0 rfl) ?_
    refine lv_iconst (v := nI 1) hx hb dL_law_291 (by decide) ?_
    refine n_iadd hx hb dL_law_292 ?_
    refine va_sld hx hb hXs hbl hbA hS (vp_in_nI (by omega) (by omega)) dL_law_293 ?_
    rw [← ha1]
    refine uVw (nL := 4) (ci := 4) (q0 := 0) (cq := (RX6, TX6, 34)) hx hb hml hown hts hK hA hP hD hS [.int a1] [.int (ansApp LL a1)] (UP.tail (y_append l D ca mm S n U bb V LL T e1 hσ a1 WM hM) WX2) gL_law_X6_append rfl ⟨rfl, qX6_append⟩ ⟨Nat.le_of_ble_eq_true rfl, Nat.le_of_ble_eq_true rfl⟩ rfl hfm rfl hl.1 (Nat.le_of_ble_eq_true rfl) ⟨by show cells + 0 + 0 ≤ 672241; omega, by show slots + 0 + 0 ≤ 7085524; omega⟩ dL_law_294 (fun v1 W1 H locs hO hP hD hS => ?_)
    obtain ⟨WM2, hO, rfl⟩ := hO
    rcases hO with ⟨rfl, ⟨hok2, hM2⟩ | ⟨hok2, hM2⟩⟩
    · exact absurd hok2 hok
    · refine W.eq (g2 := F0 m 297 ls [.int (ansApp LL a1), .int (ansApp LL a1)]) rfl ?_
      obtain ⟨hP, hD⟩ := PD_swap hP hD
      refine lv_icmp_eq (tgt := 761) hx hb dL_law_297 (by decide) (fun _ => ?_) (fun c1 => absurd rfl c1)
      exact k_next l hL C0 D ca hK x mm k hk ih S n U bb V LL T e1 w (hσ) WX2 WM2 hX2 hM2 hw _ _ (by omega) (by omega) H locs ls hP hD hS hl

set_option maxHeartbeats 2000000 in
set_option maxRecDepth 20000 in
theorem k_clearText {p : Program} {e : Env} {s : State} {m : MethodId} {below : List Frame} {meth : Method} {c : Code} (l : Launch) {b L : Nat} {xs : Nat → Int32} (hL : L ≤ 2048) (C0 : lw_At p s m meth c b L xs) (D : va_G) (ca : Nat → ClassId) (hK : KK D ca s) (x mm k : Nat) (hk : 4 * k + 4 ≤ L) (ih : LGo p l e s m below meth c b D ca x mm (k + 1)) (S : Nat → Nat) (n : Nat) (U : Nat → Nat → Nat) (bb : Nat → Nat) (V : Nat → Nat → Nat) (LL : Nat) (T : Nat → Nat) (e1 w : Nat) (hσ : SG S n U bb V LL T e1) (WX WM : va_W) (hX : XI ca x S n U bb V LL T e1 w WX) (hM : MI ca mm S n U bb V LL T e1 WM) (hw : w ≤ 1) (cells slots : Nat) (hc : cells + (513 - k) + 6 * (1 - w) ≤ 672241) (hs : slots + 8 * (513 - k) + 20263 * (1 - w) ≤ 7085524) (H : Heap) (locs : List Loc) (ls : Array Slot) (hP : va_P D vwCl (WX ++ WM) H) (hD : va_D (fun q : Nat => s.heap.size ≤ q) (WX ++ WM)) (hS : va_S (fun q : Nat => s.heap.size ≤ q) s.heap H locs) (hl : lv_has ls 4 [(3, .int (nI (4 * k))), (0, .ref b), (1, .ref x), (2, .ref mm)]) : W p l e room_1 s m #[Value.ref b] below meth c H locs cells slots (lw_Z below #[Value.ref b] s) (F0 m 302 ls []) := by
  obtain ⟨hx, hb, hr, hml, hown, hts0, hXs, hbl, hlocks, hgv⟩ := id C0
  have hts : ∀ w ∈ wsL_law, w.before #[Value.ref b] s = true := fun w h => hts0 w (wsL_law_in w h)
  have hA : ∀ q : Nat, s.heap.size ≤ q → (fun q : Nat => s.heap.size ≤ q) q := fun _ h => h
  have hbA : ¬ (fun q : Nat => s.heap.size ≤ q) b := Nat.not_le.mpr hbl
  have hk5 : k < 513 := by omega
  obtain ⟨fs, hfs⟩ := XI_0 hX WM
  refine lv_aload_n hx hb dL_law_302 rfl (lv_at hl 2 rfl) ?_
  refine uVw (nL := 4) (ci := 3) (q0 := 0) (cq := (RX5, TX5, 8)) hx hb hml hown hts hK hA hP hD hS [] [] (UP.tail (x_clearText l D ca x S n U bb V LL T e1 w hσ WX hX) WM) gL_law_X5_clearText rfl ⟨rfl, qX5_clearText⟩ ⟨Nat.le_of_ble_eq_true rfl, Nat.le_of_ble_eq_true rfl⟩ rfl hfs rfl hl.1 (Nat.le_of_ble_eq_true rfl) ⟨by show cells + 0 ≤ 672241; omega, by show slots + 0 ≤ 7085524; omega⟩ dL_law_303 (fun v1 W1 H locs hO hP hD hS => ?_)
  obtain ⟨WX2, hO, rfl⟩ := hO
  obtain ⟨rfl, hX2⟩ := hO
  refine W.eq (g2 := F0 m 306 ls [.int (nI LL)]) rfl ?_
  obtain ⟨hP, hD⟩ := PD_swap hP hD
  obtain ⟨fm, hfm⟩ := MI_0 hM WX2
  refine lv_aload_n hx hb dL_law_306 rfl (lv_at hl 3 rfl) ?_
  refine uVw (nL := 4) (ci := 4) (q0 := 0) (cq := (RX6, TX6, 34)) hx hb hml hown hts hK hA hP hD hS [] [.int (nI LL)] (UP.tail (y_clearText l D ca mm S n U bb V LL T e1 hσ WM hM) WX2) gL_law_X6_clearText rfl ⟨rfl, qX6_clearText⟩ ⟨Nat.le_of_ble_eq_true rfl, Nat.le_of_ble_eq_true rfl⟩ rfl hfm rfl hl.1 (Nat.le_of_ble_eq_true rfl) ⟨by show cells + 0 + 0 ≤ 672241; omega, by show slots + 0 + 0 ≤ 7085524; omega⟩ dL_law_307 (fun v1 W1 H locs hO hP hD hS => ?_)
  obtain ⟨WM2, hO, rfl⟩ := hO
  obtain ⟨rfl, hM2⟩ := hO
  refine W.eq (g2 := F0 m 310 ls [.int (nI LL), .int (nI LL)]) rfl ?_
  obtain ⟨hP, hD⟩ := PD_swap hP hD
  refine lv_icmp_eq (tgt := 761) hx hb dL_law_310 (by decide) (fun _ => ?_) (fun c1 => absurd rfl c1)
  exact k_next l hL C0 D ca hK x mm k hk ih S n U bb V 0 T e1 w (SG_cl hσ) WX2 WM2 hX2 hM2 hw _ _ (by omega) (by omega) H locs ls hP hD hS hl

set_option maxHeartbeats 2000000 in
set_option maxRecDepth 20000 in
theorem k_runText {p : Program} {e : Env} {s : State} {m : MethodId} {below : List Frame} {meth : Method} {c : Code} (l : Launch) {b L : Nat} {xs : Nat → Int32} (hL : L ≤ 2048) (C0 : lw_At p s m meth c b L xs) (D : va_G) (ca : Nat → ClassId) (hK : KK D ca s) (x mm k : Nat) (hk : 4 * k + 4 ≤ L) (ih : LGo p l e s m below meth c b D ca x mm (k + 1)) (S : Nat → Nat) (n : Nat) (U : Nat → Nat → Nat) (bb : Nat → Nat) (V : Nat → Nat → Nat) (LL : Nat) (T : Nat → Nat) (e1 w : Nat) (hσ : SG S n U bb V LL T e1) (WX WM : va_W) (hX : XI ca x S n U bb V LL T e1 w WX) (hM : MI ca mm S n U bb V LL T e1 WM) (hw : w ≤ 1) (cells slots : Nat) (hc : cells + (513 - k) + 6 * (1 - w) ≤ 672241) (hs : slots + 8 * (513 - k) + 20263 * (1 - w) ≤ 7085524) (H : Heap) (locs : List Loc) (ls : Array Slot) (hP : va_P D vwCl (WX ++ WM) H) (hD : va_D (fun q : Nat => s.heap.size ≤ q) (WX ++ WM)) (hS : va_S (fun q : Nat => s.heap.size ≤ q) s.heap H locs) (hl : lv_has ls 4 [(3, .int (nI (4 * k))), (0, .ref b), (1, .ref x), (2, .ref mm)]) : W p l e room_1 s m #[Value.ref b] below meth c H locs cells slots (lw_Z below #[Value.ref b] s) (F0 m 315 ls []) := by
  obtain ⟨hx, hb, hr, hml, hown, hts0, hXs, hbl, hlocks, hgv⟩ := id C0
  have hts : ∀ w ∈ wsL_law, w.before #[Value.ref b] s = true := fun w h => hts0 w (wsL_law_in w h)
  have hA : ∀ q : Nat, s.heap.size ≤ q → (fun q : Nat => s.heap.size ≤ q) q := fun _ h => h
  have hbA : ¬ (fun q : Nat => s.heap.size ≤ q) b := Nat.not_le.mpr hbl
  have hk5 : k < 513 := by omega
  obtain ⟨fs, hfs⟩ := XI_0 hX WM
  refine lv_aload_n hx hb dL_law_315 rfl (lv_at hl 2 rfl) ?_
  refine uVw (nL := 4) (ci := 3) (q0 := 0) (cq := (RX5, TX5, 8)) hx hb hml hown hts hK hA hP hD hS [] [] (UP.tail (x_runText l D ca x S n U bb V LL T e1 w hσ WX hX) WM) gL_law_X5_runText rfl ⟨rfl, qX5_runText⟩ ⟨Nat.le_of_ble_eq_true rfl, Nat.le_of_ble_eq_true rfl⟩ rfl hfs rfl hl.1 (Nat.le_of_ble_eq_true rfl) ⟨by show cells + 0 ≤ 672241; omega, by show slots + 0 ≤ 7085524; omega⟩ dL_law_316 (fun v1 W1 H locs hO hP hD hS => ?_)
  obtain ⟨WX2, hO, rfl⟩ := hO
  obtain ⟨P0, K0, hy, hn⟩ := hO
  by_cases hR : (rdF T LL (S 1) LL 0 0 (0, P0, K0)).1 = 0
  · obtain ⟨rfl, hX2⟩ := hy hR
    refine W.eq (g2 := F0 m 319 ls [.int (nI (exN (rdF T LL (S 1) LL 0 0 (0, P0, K0)).2 (rdF T LL (S 1) LL 0 0 (0, P0, K0)).2.1 0 S))]) rfl ?_
    obtain ⟨hP, hD⟩ := PD_swap hP hD
    obtain ⟨fm, hfm⟩ := MI_0 hM WX2
    refine lv_aload_n hx hb dL_law_319 rfl (lv_at hl 3 rfl) ?_
    refine uVw (nL := 4) (ci := 4) (q0 := 0) (cq := (RX6, TX6, 34)) hx hb hml hown hts hK hA hP hD hS [] [.int (nI (exN (rdF T LL (S 1) LL 0 0 (0, P0, K0)).2 (rdF T LL (S 1) LL 0 0 (0, P0, K0)).2.1 0 S))] (UP.tail (y_runText l D ca mm S n U bb V LL T e1 hσ  P0 K0 WM hM) WX2) gL_law_X6_runText rfl ⟨rfl, qX6_runText⟩ ⟨Nat.le_of_ble_eq_true rfl, Nat.le_of_ble_eq_true rfl⟩ rfl hfm rfl hl.1 (Nat.le_of_ble_eq_true rfl) ⟨by show cells + 0 + 0 ≤ 672241; omega, by show slots + 0 + 0 ≤ 7085524; omega⟩ dL_law_320 (fun v1 W1 H locs hO hP hD hS => ?_)
    obtain ⟨WM2, hO, rfl⟩ := hO
    obtain ⟨hy2, hn2⟩ := hO
    obtain ⟨rfl, hM2⟩ := hy2 hR
    refine W.eq (g2 := F0 m 323 ls [.int (nI (exN (rdF T LL (S 1) LL 0 0 (0, P0, K0)).2 (rdF T LL (S 1) LL 0 0 (0, P0, K0)).2.1 0 S)), .int (nI (exN (rdF T LL (S 1) LL 0 0 (0, P0, K0)).2 (rdF T LL (S 1) LL 0 0 (0, P0, K0)).2.1 0 S))]) rfl ?_
    obtain ⟨hP, hD⟩ := PD_swap hP hD
    refine lv_icmp_eq (tgt := 761) hx hb dL_law_323 (by decide) (fun _ => ?_) (fun c1 => absurd rfl c1)
    exact k_next l hL C0 D ca hK x mm k hk ih (exS (rdF T LL (S 1) LL 0 0 (0, P0, K0)).2 (rdF T LL (S 1) LL 0 0 (0, P0, K0)).2.1 0 S) (kpN n) (kU n U S) bb V 0 T 0 w (SG_rt hσ P0 K0) WX2 WM2 hX2 hM2 hw _ _ (by omega) (by omega) H locs ls hP hD hS hl
  · obtain ⟨rfl, hX2⟩ := hn hR
    refine W.eq (g2 := F0 m 319 ls [.int (-10 - nI ((rdF T LL (S 1) LL 0 0 (0, P0, K0)).1 - 1))]) rfl ?_
    obtain ⟨hP, hD⟩ := PD_swap hP hD
    obtain ⟨fm, hfm⟩ := MI_0 hM WX2
    refine lv_aload_n hx hb dL_law_319 rfl (lv_at hl 3 rfl) ?_
    refine uVw (nL := 4) (ci := 4) (q0 := 0) (cq := (RX6, TX6, 34)) hx hb hml hown hts hK hA hP hD hS [] [.int (-10 - nI ((rdF T LL (S 1) LL 0 0 (0, P0, K0)).1 - 1))] (UP.tail (y_runText l D ca mm S n U bb V LL T e1 hσ  P0 K0 WM hM) WX2) gL_law_X6_runText rfl ⟨rfl, qX6_runText⟩ ⟨Nat.le_of_ble_eq_true rfl, Nat.le_of_ble_eq_true rfl⟩ rfl hfm rfl hl.1 (Nat.le_of_ble_eq_true rfl) ⟨by show cells + 0 + 0 ≤ 672241; omega, by show slots + 0 + 0 ≤ 7085524; omega⟩ dL_law_320 (fun v1 W1 H locs hO hP hD hS => ?_)
    obtain ⟨WM2, hO, rfl⟩ := hO
    obtain ⟨hy2, hn2⟩ := hO
    obtain ⟨rfl, hM2⟩ := hn2 hR
    refine W.eq (g2 := F0 m 323 ls [.int (-10 - nI ((rdF T LL (S 1) LL 0 0 (0, P0, K0)).1 - 1)), .int (-10 - nI ((rdF T LL (S 1) LL 0 0 (0, P0, K0)).1 - 1))]) rfl ?_
    obtain ⟨hP, hD⟩ := PD_swap hP hD
    refine lv_icmp_eq (tgt := 761) hx hb dL_law_323 (by decide) (fun _ => ?_) (fun c1 => absurd rfl c1)
    exact k_next l hL C0 D ca hK x mm k hk ih S n U bb V LL T e1 w (hσ) WX2 WM2 hX2 hM2 hw _ _ (by omega) (by omega) H locs ls hP hD hS hl

set_option maxHeartbeats 2000000 in
set_option maxRecDepth 20000 in
theorem k_status {p : Program} {e : Env} {s : State} {m : MethodId} {below : List Frame} {meth : Method} {c : Code} (l : Launch) {b L : Nat} {xs : Nat → Int32} (hL : L ≤ 2048) (C0 : lw_At p s m meth c b L xs) (D : va_G) (ca : Nat → ClassId) (hK : KK D ca s) (x mm k : Nat) (hk : 4 * k + 4 ≤ L) (ih : LGo p l e s m below meth c b D ca x mm (k + 1)) (S : Nat → Nat) (n : Nat) (U : Nat → Nat → Nat) (bb : Nat → Nat) (V : Nat → Nat → Nat) (LL : Nat) (T : Nat → Nat) (e1 w : Nat) (hσ : SG S n U bb V LL T e1) (WX WM : va_W) (hX : XI ca x S n U bb V LL T e1 w WX) (hM : MI ca mm S n U bb V LL T e1 WM) (hw : w ≤ 1) (cells slots : Nat) (hc : cells + (513 - k) + 6 * (1 - w) ≤ 672241) (hs : slots + 8 * (513 - k) + 20263 * (1 - w) ≤ 7085524) (H : Heap) (locs : List Loc) (ls : Array Slot) (hP : va_P D vwCl (WX ++ WM) H) (hD : va_D (fun q : Nat => s.heap.size ≤ q) (WX ++ WM)) (hS : va_S (fun q : Nat => s.heap.size ≤ q) s.heap H locs) (hl : lv_has ls 4 [(3, .int (nI (4 * k))), (0, .ref b), (1, .ref x), (2, .ref mm)]) : W p l e room_1 s m #[Value.ref b] below meth c H locs cells slots (lw_Z below #[Value.ref b] s) (F0 m 328 ls []) := by
  obtain ⟨hx, hb, hr, hml, hown, hts0, hXs, hbl, hlocks, hgv⟩ := id C0
  have hts : ∀ w ∈ wsL_law, w.before #[Value.ref b] s = true := fun w h => hts0 w (wsL_law_in w h)
  have hA : ∀ q : Nat, s.heap.size ≤ q → (fun q : Nat => s.heap.size ≤ q) q := fun _ h => h
  have hbA : ¬ (fun q : Nat => s.heap.size ≤ q) b := Nat.not_le.mpr hbl
  have hk5 : k < 513 := by omega
  obtain ⟨fs, hfs⟩ := XI_0 hX WM
  refine lv_aload_n hx hb dL_law_328 rfl (lv_at hl 2 rfl) ?_
  refine lv_aload_n hx hb dL_law_329 rfl (lv_at hl 1 rfl) ?_
  refine lv_iload_n hx hb dL_law_330 rfl (lv_at hl 0 rfl) ?_
  refine lv_iconst (v := nI 1) hx hb dL_law_331 (by decide) ?_
  refine n_iadd hx hb dL_law_332 ?_
  refine va_sld hx hb hXs hbl hbA hS (vp_in_nI (by omega) (by omega)) dL_law_333 ?_
  obtain ⟨a1, ha1⟩ : ∃ z, z = xs (nI (4 * k + 1)).toNatClampNeg := ⟨_, rfl⟩
  rw [← ha1]
  refine uVw (nL := 4) (ci := 3) (q0 := 0) (cq := (RX5, TX5, 8)) hx hb hml hown hts hK hA hP hD hS [.int a1] [] (UP.tail (x_status l D ca x S n U bb V LL T e1 w hσ a1 WX hX) WM) gL_law_X5_status rfl ⟨rfl, qX5_status⟩ ⟨Nat.le_of_ble_eq_true rfl, Nat.le_of_ble_eq_true rfl⟩ rfl hfs rfl hl.1 (Nat.le_of_ble_eq_true rfl) ⟨by show cells + 0 ≤ 672241; omega, by show slots + 0 ≤ 7085524; omega⟩ dL_law_334 (fun v1 W1 H locs hO hP hD hS => ?_)
  obtain ⟨WX2, hO, rfl⟩ := hO
  obtain ⟨rfl, hX2⟩ := hO
  refine W.eq (g2 := F0 m 337 ls [.int (ansP (S 1) a1 (fun j => nI (stC (S 3) j)))]) rfl ?_
  obtain ⟨hP, hD⟩ := PD_swap hP hD
  obtain ⟨fm, hfm⟩ := MI_0 hM WX2
  refine lv_aload_n hx hb dL_law_337 rfl (lv_at hl 3 rfl) ?_
  refine lv_aload_n hx hb dL_law_338 rfl (lv_at hl 1 rfl) ?_
  refine lv_iload_n hx hb dL_law_339 rfl (lv_at hl 0 rfl) ?_
  refine lv_iconst (v := nI 1) hx hb dL_law_340 (by decide) ?_
  refine n_iadd hx hb dL_law_341 ?_
  refine va_sld hx hb hXs hbl hbA hS (vp_in_nI (by omega) (by omega)) dL_law_342 ?_
  rw [← ha1]
  refine uVw (nL := 4) (ci := 4) (q0 := 0) (cq := (RX6, TX6, 34)) hx hb hml hown hts hK hA hP hD hS [.int a1] [.int (ansP (S 1) a1 (fun j => nI (stC (S 3) j)))] (UP.tail (y_status l D ca mm S n U bb V LL T e1 hσ a1 WM hM) WX2) gL_law_X6_status rfl ⟨rfl, qX6_status⟩ ⟨Nat.le_of_ble_eq_true rfl, Nat.le_of_ble_eq_true rfl⟩ rfl hfm rfl hl.1 (Nat.le_of_ble_eq_true rfl) ⟨by show cells + 0 + 0 ≤ 672241; omega, by show slots + 0 + 0 ≤ 7085524; omega⟩ dL_law_343 (fun v1 W1 H locs hO hP hD hS => ?_)
  obtain ⟨WM2, hO, rfl⟩ := hO
  obtain ⟨rfl, hM2⟩ := hO
  refine W.eq (g2 := F0 m 346 ls [.int (ansP (S 1) a1 (fun j => nI (stC (S 3) j))), .int (ansP (S 1) a1 (fun j => nI (stC (S 3) j)))]) rfl ?_
  obtain ⟨hP, hD⟩ := PD_swap hP hD
  refine lv_icmp_eq (tgt := 761) hx hb dL_law_346 (by decide) (fun _ => ?_) (fun c1 => absurd rfl c1)
  exact k_next l hL C0 D ca hK x mm k hk ih S n U bb V LL T e1 w (hσ) WX2 WM2 hX2 hM2 hw _ _ (by omega) (by omega) H locs ls hP hD hS hl

set_option maxHeartbeats 2000000 in
set_option maxRecDepth 20000 in
theorem k_splitterOf {p : Program} {e : Env} {s : State} {m : MethodId} {below : List Frame} {meth : Method} {c : Code} (l : Launch) {b L : Nat} {xs : Nat → Int32} (hL : L ≤ 2048) (C0 : lw_At p s m meth c b L xs) (D : va_G) (ca : Nat → ClassId) (hK : KK D ca s) (x mm k : Nat) (hk : 4 * k + 4 ≤ L) (ih : LGo p l e s m below meth c b D ca x mm (k + 1)) (S : Nat → Nat) (n : Nat) (U : Nat → Nat → Nat) (bb : Nat → Nat) (V : Nat → Nat → Nat) (LL : Nat) (T : Nat → Nat) (e1 w : Nat) (hσ : SG S n U bb V LL T e1) (WX WM : va_W) (hX : XI ca x S n U bb V LL T e1 w WX) (hM : MI ca mm S n U bb V LL T e1 WM) (hw : w ≤ 1) (cells slots : Nat) (hc : cells + (513 - k) + 6 * (1 - w) ≤ 672241) (hs : slots + 8 * (513 - k) + 20263 * (1 - w) ≤ 7085524) (H : Heap) (locs : List Loc) (ls : Array Slot) (hP : va_P D vwCl (WX ++ WM) H) (hD : va_D (fun q : Nat => s.heap.size ≤ q) (WX ++ WM)) (hS : va_S (fun q : Nat => s.heap.size ≤ q) s.heap H locs) (hl : lv_has ls 4 [(3, .int (nI (4 * k))), (0, .ref b), (1, .ref x), (2, .ref mm)]) : W p l e room_1 s m #[Value.ref b] below meth c H locs cells slots (lw_Z below #[Value.ref b] s) (F0 m 351 ls []) := by
  obtain ⟨hx, hb, hr, hml, hown, hts0, hXs, hbl, hlocks, hgv⟩ := id C0
  have hts : ∀ w ∈ wsL_law, w.before #[Value.ref b] s = true := fun w h => hts0 w (wsL_law_in w h)
  have hA : ∀ q : Nat, s.heap.size ≤ q → (fun q : Nat => s.heap.size ≤ q) q := fun _ h => h
  have hbA : ¬ (fun q : Nat => s.heap.size ≤ q) b := Nat.not_le.mpr hbl
  have hk5 : k < 513 := by omega
  obtain ⟨fs, hfs⟩ := XI_0 hX WM
  refine lv_aload_n hx hb dL_law_351 rfl (lv_at hl 2 rfl) ?_
  refine lv_aload_n hx hb dL_law_352 rfl (lv_at hl 1 rfl) ?_
  refine lv_iload_n hx hb dL_law_353 rfl (lv_at hl 0 rfl) ?_
  refine lv_iconst (v := nI 1) hx hb dL_law_354 (by decide) ?_
  refine n_iadd hx hb dL_law_355 ?_
  refine va_sld hx hb hXs hbl hbA hS (vp_in_nI (by omega) (by omega)) dL_law_356 ?_
  obtain ⟨a1, ha1⟩ : ∃ z, z = xs (nI (4 * k + 1)).toNatClampNeg := ⟨_, rfl⟩
  rw [← ha1]
  refine uVw (nL := 4) (ci := 3) (q0 := 0) (cq := (RX5, TX5, 8)) hx hb hml hown hts hK hA hP hD hS [.int a1] [] (UP.tail (x_splitterOf l D ca x S n U bb V LL T e1 w hσ a1 WX hX) WM) gL_law_X5_splitterOf rfl ⟨rfl, qX5_splitterOf⟩ ⟨Nat.le_of_ble_eq_true rfl, Nat.le_of_ble_eq_true rfl⟩ rfl hfs rfl hl.1 (Nat.le_of_ble_eq_true rfl) ⟨by show cells + 0 ≤ 672241; omega, by show slots + 0 ≤ 7085524; omega⟩ dL_law_357 (fun v1 W1 H locs hO hP hD hS => ?_)
  obtain ⟨WX2, hO, rfl⟩ := hO
  obtain ⟨rfl, hX2⟩ := hO
  refine W.eq (g2 := F0 m 360 ls [.int (ansP (S 1) a1 (fun j => if stC (S 3) j = 2 then -9 else nI (spC (S 3) j)))]) rfl ?_
  obtain ⟨hP, hD⟩ := PD_swap hP hD
  obtain ⟨fm, hfm⟩ := MI_0 hM WX2
  refine lv_aload_n hx hb dL_law_360 rfl (lv_at hl 3 rfl) ?_
  refine lv_aload_n hx hb dL_law_361 rfl (lv_at hl 1 rfl) ?_
  refine lv_iload_n hx hb dL_law_362 rfl (lv_at hl 0 rfl) ?_
  refine lv_iconst (v := nI 1) hx hb dL_law_363 (by decide) ?_
  refine n_iadd hx hb dL_law_364 ?_
  refine va_sld hx hb hXs hbl hbA hS (vp_in_nI (by omega) (by omega)) dL_law_365 ?_
  rw [← ha1]
  refine uVw (nL := 4) (ci := 4) (q0 := 0) (cq := (RX6, TX6, 34)) hx hb hml hown hts hK hA hP hD hS [.int a1] [.int (ansP (S 1) a1 (fun j => if stC (S 3) j = 2 then -9 else nI (spC (S 3) j)))] (UP.tail (y_splitterOf l D ca mm S n U bb V LL T e1 hσ a1 WM hM) WX2) gL_law_X6_splitterOf rfl ⟨rfl, qX6_splitterOf⟩ ⟨Nat.le_of_ble_eq_true rfl, Nat.le_of_ble_eq_true rfl⟩ rfl hfm rfl hl.1 (Nat.le_of_ble_eq_true rfl) ⟨by show cells + 0 + 0 ≤ 672241; omega, by show slots + 0 + 0 ≤ 7085524; omega⟩ dL_law_366 (fun v1 W1 H locs hO hP hD hS => ?_)
  obtain ⟨WM2, hO, rfl⟩ := hO
  obtain ⟨rfl, hM2⟩ := hO
  refine W.eq (g2 := F0 m 369 ls [.int (ansP (S 1) a1 (fun j => if stC (S 3) j = 2 then -9 else nI (spC (S 3) j))), .int (ansP (S 1) a1 (fun j => if stC (S 3) j = 2 then -9 else nI (spC (S 3) j)))]) rfl ?_
  obtain ⟨hP, hD⟩ := PD_swap hP hD
  refine lv_icmp_eq (tgt := 761) hx hb dL_law_369 (by decide) (fun _ => ?_) (fun c1 => absurd rfl c1)
  exact k_next l hL C0 D ca hK x mm k hk ih S n U bb V LL T e1 w (hσ) WX2 WM2 hX2 hM2 hw _ _ (by omega) (by omega) H locs ls hP hD hS hl

set_option maxHeartbeats 2000000 in
set_option maxRecDepth 20000 in
theorem k_phaseOf {p : Program} {e : Env} {s : State} {m : MethodId} {below : List Frame} {meth : Method} {c : Code} (l : Launch) {b L : Nat} {xs : Nat → Int32} (hL : L ≤ 2048) (C0 : lw_At p s m meth c b L xs) (D : va_G) (ca : Nat → ClassId) (hK : KK D ca s) (x mm k : Nat) (hk : 4 * k + 4 ≤ L) (ih : LGo p l e s m below meth c b D ca x mm (k + 1)) (S : Nat → Nat) (n : Nat) (U : Nat → Nat → Nat) (bb : Nat → Nat) (V : Nat → Nat → Nat) (LL : Nat) (T : Nat → Nat) (e1 w : Nat) (hσ : SG S n U bb V LL T e1) (WX WM : va_W) (hX : XI ca x S n U bb V LL T e1 w WX) (hM : MI ca mm S n U bb V LL T e1 WM) (hw : w ≤ 1) (cells slots : Nat) (hc : cells + (513 - k) + 6 * (1 - w) ≤ 672241) (hs : slots + 8 * (513 - k) + 20263 * (1 - w) ≤ 7085524) (H : Heap) (locs : List Loc) (ls : Array Slot) (hP : va_P D vwCl (WX ++ WM) H) (hD : va_D (fun q : Nat => s.heap.size ≤ q) (WX ++ WM)) (hS : va_S (fun q : Nat => s.heap.size ≤ q) s.heap H locs) (hl : lv_has ls 4 [(3, .int (nI (4 * k))), (0, .ref b), (1, .ref x), (2, .ref mm)]) : W p l e room_1 s m #[Value.ref b] below meth c H locs cells slots (lw_Z below #[Value.ref b] s) (F0 m 374 ls []) := by
  obtain ⟨hx, hb, hr, hml, hown, hts0, hXs, hbl, hlocks, hgv⟩ := id C0
  have hts : ∀ w ∈ wsL_law, w.before #[Value.ref b] s = true := fun w h => hts0 w (wsL_law_in w h)
  have hA : ∀ q : Nat, s.heap.size ≤ q → (fun q : Nat => s.heap.size ≤ q) q := fun _ h => h
  have hbA : ¬ (fun q : Nat => s.heap.size ≤ q) b := Nat.not_le.mpr hbl
  have hk5 : k < 513 := by omega
  obtain ⟨fs, hfs⟩ := XI_0 hX WM
  refine lv_aload_n hx hb dL_law_374 rfl (lv_at hl 2 rfl) ?_
  refine lv_aload_n hx hb dL_law_375 rfl (lv_at hl 1 rfl) ?_
  refine lv_iload_n hx hb dL_law_376 rfl (lv_at hl 0 rfl) ?_
  refine lv_iconst (v := nI 1) hx hb dL_law_377 (by decide) ?_
  refine n_iadd hx hb dL_law_378 ?_
  refine va_sld hx hb hXs hbl hbA hS (vp_in_nI (by omega) (by omega)) dL_law_379 ?_
  obtain ⟨a1, ha1⟩ : ∃ z, z = xs (nI (4 * k + 1)).toNatClampNeg := ⟨_, rfl⟩
  rw [← ha1]
  refine uVw (nL := 4) (ci := 3) (q0 := 0) (cq := (RX5, TX5, 8)) hx hb hml hown hts hK hA hP hD hS [.int a1] [] (UP.tail (x_phaseOf l D ca x S n U bb V LL T e1 w hσ a1 WX hX) WM) gL_law_X5_phaseOf rfl ⟨rfl, qX5_phaseOf⟩ ⟨Nat.le_of_ble_eq_true rfl, Nat.le_of_ble_eq_true rfl⟩ rfl hfs rfl hl.1 (Nat.le_of_ble_eq_true rfl) ⟨by show cells + 0 ≤ 672241; omega, by show slots + 0 ≤ 7085524; omega⟩ dL_law_380 (fun v1 W1 H locs hO hP hD hS => ?_)
  obtain ⟨WX2, hO, rfl⟩ := hO
  obtain ⟨rfl, hX2⟩ := hO
  refine W.eq (g2 := F0 m 383 ls [.int (ansP (S 1) a1 (fun j => if stC (S 3) j = 2 then -9 else nI (phC (S 3) j)))]) rfl ?_
  obtain ⟨hP, hD⟩ := PD_swap hP hD
  obtain ⟨fm, hfm⟩ := MI_0 hM WX2
  refine lv_aload_n hx hb dL_law_383 rfl (lv_at hl 3 rfl) ?_
  refine lv_aload_n hx hb dL_law_384 rfl (lv_at hl 1 rfl) ?_
  refine lv_iload_n hx hb dL_law_385 rfl (lv_at hl 0 rfl) ?_
  refine lv_iconst (v := nI 1) hx hb dL_law_386 (by decide) ?_
  refine n_iadd hx hb dL_law_387 ?_
  refine va_sld hx hb hXs hbl hbA hS (vp_in_nI (by omega) (by omega)) dL_law_388 ?_
  rw [← ha1]
  refine uVw (nL := 4) (ci := 4) (q0 := 0) (cq := (RX6, TX6, 34)) hx hb hml hown hts hK hA hP hD hS [.int a1] [.int (ansP (S 1) a1 (fun j => if stC (S 3) j = 2 then -9 else nI (phC (S 3) j)))] (UP.tail (y_phaseOf l D ca mm S n U bb V LL T e1 hσ a1 WM hM) WX2) gL_law_X6_phaseOf rfl ⟨rfl, qX6_phaseOf⟩ ⟨Nat.le_of_ble_eq_true rfl, Nat.le_of_ble_eq_true rfl⟩ rfl hfm rfl hl.1 (Nat.le_of_ble_eq_true rfl) ⟨by show cells + 0 + 0 ≤ 672241; omega, by show slots + 0 + 0 ≤ 7085524; omega⟩ dL_law_389 (fun v1 W1 H locs hO hP hD hS => ?_)
  obtain ⟨WM2, hO, rfl⟩ := hO
  obtain ⟨rfl, hM2⟩ := hO
  refine W.eq (g2 := F0 m 392 ls [.int (ansP (S 1) a1 (fun j => if stC (S 3) j = 2 then -9 else nI (phC (S 3) j))), .int (ansP (S 1) a1 (fun j => if stC (S 3) j = 2 then -9 else nI (phC (S 3) j)))]) rfl ?_
  obtain ⟨hP, hD⟩ := PD_swap hP hD
  refine lv_icmp_eq (tgt := 761) hx hb dL_law_392 (by decide) (fun _ => ?_) (fun c1 => absurd rfl c1)
  exact k_next l hL C0 D ca hK x mm k hk ih S n U bb V LL T e1 w (hσ) WX2 WM2 hX2 hM2 hw _ _ (by omega) (by omega) H locs ls hP hD hS hl

set_option maxHeartbeats 2000000 in
set_option maxRecDepth 20000 in
theorem k_stepsOf {p : Program} {e : Env} {s : State} {m : MethodId} {below : List Frame} {meth : Method} {c : Code} (l : Launch) {b L : Nat} {xs : Nat → Int32} (hL : L ≤ 2048) (C0 : lw_At p s m meth c b L xs) (D : va_G) (ca : Nat → ClassId) (hK : KK D ca s) (x mm k : Nat) (hk : 4 * k + 4 ≤ L) (ih : LGo p l e s m below meth c b D ca x mm (k + 1)) (S : Nat → Nat) (n : Nat) (U : Nat → Nat → Nat) (bb : Nat → Nat) (V : Nat → Nat → Nat) (LL : Nat) (T : Nat → Nat) (e1 w : Nat) (hσ : SG S n U bb V LL T e1) (WX WM : va_W) (hX : XI ca x S n U bb V LL T e1 w WX) (hM : MI ca mm S n U bb V LL T e1 WM) (hw : w ≤ 1) (cells slots : Nat) (hc : cells + (513 - k) + 6 * (1 - w) ≤ 672241) (hs : slots + 8 * (513 - k) + 20263 * (1 - w) ≤ 7085524) (H : Heap) (locs : List Loc) (ls : Array Slot) (hP : va_P D vwCl (WX ++ WM) H) (hD : va_D (fun q : Nat => s.heap.size ≤ q) (WX ++ WM)) (hS : va_S (fun q : Nat => s.heap.size ≤ q) s.heap H locs) (hl : lv_has ls 4 [(3, .int (nI (4 * k))), (0, .ref b), (1, .ref x), (2, .ref mm)]) : W p l e room_1 s m #[Value.ref b] below meth c H locs cells slots (lw_Z below #[Value.ref b] s) (F0 m 397 ls []) := by
  obtain ⟨hx, hb, hr, hml, hown, hts0, hXs, hbl, hlocks, hgv⟩ := id C0
  have hts : ∀ w ∈ wsL_law, w.before #[Value.ref b] s = true := fun w h => hts0 w (wsL_law_in w h)
  have hA : ∀ q : Nat, s.heap.size ≤ q → (fun q : Nat => s.heap.size ≤ q) q := fun _ h => h
  have hbA : ¬ (fun q : Nat => s.heap.size ≤ q) b := Nat.not_le.mpr hbl
  have hk5 : k < 513 := by omega
  obtain ⟨fs, hfs⟩ := XI_0 hX WM
  refine lv_aload_n hx hb dL_law_397 rfl (lv_at hl 2 rfl) ?_
  refine lv_aload_n hx hb dL_law_398 rfl (lv_at hl 1 rfl) ?_
  refine lv_iload_n hx hb dL_law_399 rfl (lv_at hl 0 rfl) ?_
  refine lv_iconst (v := nI 1) hx hb dL_law_400 (by decide) ?_
  refine n_iadd hx hb dL_law_401 ?_
  refine va_sld hx hb hXs hbl hbA hS (vp_in_nI (by omega) (by omega)) dL_law_402 ?_
  obtain ⟨a1, ha1⟩ : ∃ z, z = xs (nI (4 * k + 1)).toNatClampNeg := ⟨_, rfl⟩
  rw [← ha1]
  refine uVw (nL := 4) (ci := 3) (q0 := 0) (cq := (RX5, TX5, 8)) hx hb hml hown hts hK hA hP hD hS [.int a1] [] (UP.tail (x_stepsOf l D ca x S n U bb V LL T e1 w hσ a1 WX hX) WM) gL_law_X5_stepsOf rfl ⟨rfl, qX5_stepsOf⟩ ⟨Nat.le_of_ble_eq_true rfl, Nat.le_of_ble_eq_true rfl⟩ rfl hfs rfl hl.1 (Nat.le_of_ble_eq_true rfl) ⟨by show cells + 0 ≤ 672241; omega, by show slots + 0 ≤ 7085524; omega⟩ dL_law_403 (fun v1 W1 H locs hO hP hD hS => ?_)
  obtain ⟨WX2, hO, rfl⟩ := hO
  obtain ⟨rfl, hX2⟩ := hO
  refine W.eq (g2 := F0 m 406 ls [.int (ansP (S 1) a1 (fun j => nI (cnt (S 4) j)))]) rfl ?_
  obtain ⟨hP, hD⟩ := PD_swap hP hD
  obtain ⟨fm, hfm⟩ := MI_0 hM WX2
  refine lv_aload_n hx hb dL_law_406 rfl (lv_at hl 3 rfl) ?_
  refine lv_aload_n hx hb dL_law_407 rfl (lv_at hl 1 rfl) ?_
  refine lv_iload_n hx hb dL_law_408 rfl (lv_at hl 0 rfl) ?_
  refine lv_iconst (v := nI 1) hx hb dL_law_409 (by decide) ?_
  refine n_iadd hx hb dL_law_410 ?_
  refine va_sld hx hb hXs hbl hbA hS (vp_in_nI (by omega) (by omega)) dL_law_411 ?_
  rw [← ha1]
  refine uVw (nL := 4) (ci := 4) (q0 := 0) (cq := (RX6, TX6, 34)) hx hb hml hown hts hK hA hP hD hS [.int a1] [.int (ansP (S 1) a1 (fun j => nI (cnt (S 4) j)))] (UP.tail (y_stepsOf l D ca mm S n U bb V LL T e1 hσ a1 WM hM) WX2) gL_law_X6_stepsOf rfl ⟨rfl, qX6_stepsOf⟩ ⟨Nat.le_of_ble_eq_true rfl, Nat.le_of_ble_eq_true rfl⟩ rfl hfm rfl hl.1 (Nat.le_of_ble_eq_true rfl) ⟨by show cells + 0 + 0 ≤ 672241; omega, by show slots + 0 + 0 ≤ 7085524; omega⟩ dL_law_412 (fun v1 W1 H locs hO hP hD hS => ?_)
  obtain ⟨WM2, hO, rfl⟩ := hO
  obtain ⟨rfl, hM2⟩ := hO
  refine W.eq (g2 := F0 m 415 ls [.int (ansP (S 1) a1 (fun j => nI (cnt (S 4) j))), .int (ansP (S 1) a1 (fun j => nI (cnt (S 4) j)))]) rfl ?_
  obtain ⟨hP, hD⟩ := PD_swap hP hD
  refine lv_icmp_eq (tgt := 761) hx hb dL_law_415 (by decide) (fun _ => ?_) (fun c1 => absurd rfl c1)
  exact k_next l hL C0 D ca hK x mm k hk ih S n U bb V LL T e1 w (hσ) WX2 WM2 hX2 hM2 hw _ _ (by omega) (by omega) H locs ls hP hD hS hl

set_option maxHeartbeats 2000000 in
set_option maxRecDepth 20000 in
theorem k_soloSteps {p : Program} {e : Env} {s : State} {m : MethodId} {below : List Frame} {meth : Method} {c : Code} (l : Launch) {b L : Nat} {xs : Nat → Int32} (hL : L ≤ 2048) (C0 : lw_At p s m meth c b L xs) (D : va_G) (ca : Nat → ClassId) (hK : KK D ca s) (x mm k : Nat) (hk : 4 * k + 4 ≤ L) (ih : LGo p l e s m below meth c b D ca x mm (k + 1)) (S : Nat → Nat) (n : Nat) (U : Nat → Nat → Nat) (bb : Nat → Nat) (V : Nat → Nat → Nat) (LL : Nat) (T : Nat → Nat) (e1 w : Nat) (hσ : SG S n U bb V LL T e1) (WX WM : va_W) (hX : XI ca x S n U bb V LL T e1 w WX) (hM : MI ca mm S n U bb V LL T e1 WM) (hw : w ≤ 1) (cells slots : Nat) (hc : cells + (513 - k) + 6 * (1 - w) ≤ 672241) (hs : slots + 8 * (513 - k) + 20263 * (1 - w) ≤ 7085524) (H : Heap) (locs : List Loc) (ls : Array Slot) (hP : va_P D vwCl (WX ++ WM) H) (hD : va_D (fun q : Nat => s.heap.size ≤ q) (WX ++ WM)) (hS : va_S (fun q : Nat => s.heap.size ≤ q) s.heap H locs) (hl : lv_has ls 4 [(3, .int (nI (4 * k))), (0, .ref b), (1, .ref x), (2, .ref mm)]) : W p l e room_1 s m #[Value.ref b] below meth c H locs cells slots (lw_Z below #[Value.ref b] s) (F0 m 420 ls []) := by
  obtain ⟨hx, hb, hr, hml, hown, hts0, hXs, hbl, hlocks, hgv⟩ := id C0
  have hts : ∀ w ∈ wsL_law, w.before #[Value.ref b] s = true := fun w h => hts0 w (wsL_law_in w h)
  have hA : ∀ q : Nat, s.heap.size ≤ q → (fun q : Nat => s.heap.size ≤ q) q := fun _ h => h
  have hbA : ¬ (fun q : Nat => s.heap.size ≤ q) b := Nat.not_le.mpr hbl
  have hk5 : k < 513 := by omega
  obtain ⟨fs, hfs⟩ := XI_0 hX WM
  refine lv_aload_n hx hb dL_law_420 rfl (lv_at hl 2 rfl) ?_
  refine lv_aload_n hx hb dL_law_421 rfl (lv_at hl 1 rfl) ?_
  refine lv_iload_n hx hb dL_law_422 rfl (lv_at hl 0 rfl) ?_
  refine lv_iconst (v := nI 1) hx hb dL_law_423 (by decide) ?_
  refine n_iadd hx hb dL_law_424 ?_
  refine va_sld hx hb hXs hbl hbA hS (vp_in_nI (by omega) (by omega)) dL_law_425 ?_
  obtain ⟨a1, ha1⟩ : ∃ z, z = xs (nI (4 * k + 1)).toNatClampNeg := ⟨_, rfl⟩
  rw [← ha1]
  refine uVw (nL := 4) (ci := 3) (q0 := 0) (cq := (RX5, TX5, 8)) hx hb hml hown hts hK hA hP hD hS [.int a1] [] (UP.tail (x_soloSteps l D ca x S n U bb V LL T e1 w hσ a1 WX hX) WM) gL_law_X5_soloSteps rfl ⟨rfl, qX5_soloSteps⟩ ⟨Nat.le_of_ble_eq_true rfl, Nat.le_of_ble_eq_true rfl⟩ rfl hfs rfl hl.1 (Nat.le_of_ble_eq_true rfl) ⟨by show cells + 0 ≤ 672241; omega, by show slots + 0 ≤ 7085524; omega⟩ dL_law_426 (fun v1 W1 H locs hO hP hD hS => ?_)
  obtain ⟨WX2, hO, rfl⟩ := hO
  obtain ⟨rfl, hX2⟩ := hO
  refine W.eq (g2 := F0 m 429 ls [.int (ansP (S 1) a1 (fun j => nI (runN 16 S j)))]) rfl ?_
  obtain ⟨hP, hD⟩ := PD_swap hP hD
  obtain ⟨fm, hfm⟩ := MI_0 hM WX2
  refine lv_aload_n hx hb dL_law_429 rfl (lv_at hl 3 rfl) ?_
  refine lv_aload_n hx hb dL_law_430 rfl (lv_at hl 1 rfl) ?_
  refine lv_iload_n hx hb dL_law_431 rfl (lv_at hl 0 rfl) ?_
  refine lv_iconst (v := nI 1) hx hb dL_law_432 (by decide) ?_
  refine n_iadd hx hb dL_law_433 ?_
  refine va_sld hx hb hXs hbl hbA hS (vp_in_nI (by omega) (by omega)) dL_law_434 ?_
  rw [← ha1]
  refine uVw (nL := 4) (ci := 4) (q0 := 0) (cq := (RX6, TX6, 34)) hx hb hml hown hts hK hA hP hD hS [.int a1] [.int (ansP (S 1) a1 (fun j => nI (runN 16 S j)))] (UP.tail (y_soloSteps l D ca mm S n U bb V LL T e1 hσ a1 WM hM) WX2) gL_law_X6_soloSteps rfl ⟨rfl, qX6_soloSteps⟩ ⟨Nat.le_of_ble_eq_true rfl, Nat.le_of_ble_eq_true rfl⟩ rfl hfm rfl hl.1 (Nat.le_of_ble_eq_true rfl) ⟨by show cells + 0 + 0 ≤ 672241; omega, by show slots + 0 + 0 ≤ 7085524; omega⟩ dL_law_435 (fun v1 W1 H locs hO hP hD hS => ?_)
  obtain ⟨WM2, hO, rfl⟩ := hO
  obtain ⟨rfl, hM2⟩ := hO
  refine W.eq (g2 := F0 m 438 ls [.int (ansP (S 1) a1 (fun j => nI (runN 16 S j))), .int (ansP (S 1) a1 (fun j => nI (runN 16 S j)))]) rfl ?_
  obtain ⟨hP, hD⟩ := PD_swap hP hD
  refine lv_icmp_eq (tgt := 761) hx hb dL_law_438 (by decide) (fun _ => ?_) (fun c1 => absurd rfl c1)
  exact k_next l hL C0 D ca hK x mm k hk ih S n U bb V LL T e1 w (hσ) WX2 WM2 hX2 hM2 hw _ _ (by omega) (by omega) H locs ls hP hD hS hl
