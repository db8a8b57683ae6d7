/-! ===== the law: calls with the whole world, what the loop hands on ===== -/
theorem range_map (W : va_W) : (List.range W.length).map (fun i => W[i]?) = W.map some := by
  apply List.ext_getElem?
  intro i
  rw [List.getElem?_map, List.getElem?_map]
  by_cases h : i < W.length
  · rw [List.getElem?_range h, List.getElem?_eq_getElem h]
    simp [List.getElem?_eq_getElem h]
  · rw [List.getElem?_eq_none (by simp; omega), List.getElem?_eq_none (by omega)]
    rfl
theorem nd_of : ∀ {l : List Nat}, l.Nodup → va_nd l = true
  | [], _ => rfl
  | a :: l, h => by
    rw [List.nodup_cons] at h
    show (decide (a ∉ l) && va_nd l) = true
    rw [decide_eq_true h.1, nd_of h.2]
    rfl
theorem nd_range (n : Nat) : va_nd (List.range n) = true := nd_of List.nodup_range
section LAWC
variable {p : Program} {l : Launch} {e : Env} {R : Room} {s : State} {m : MethodId} {args : Array Value} {below : List Frame} {meth : Method} {c : Code} {H : Heap} {locs : List Loc} {cells slots : Nat} {Q : State → Prop}
variable {cc : ByteArray} {pc : Nat} {ls : Array Slot} {D : va_G} {ca : Nat → ClassId} {A : Nat → Prop} {W0 : va_W} {Ts ws ws' : List Cond} {own : String} {index fr lo mc ms nL maxL : Nat} {y : MethodName} {bytes : ByteArray} {ret1 : Option FieldType} {st0 : List Value} {Om : Option Value → va_W → Prop} {H0 : Heap}
/-- a method called that has the whole world -/
theorem uVw {b q0 ci : Nat} {cq : vw_C} {fs : List Value} (hx : p.tables.exec = Jvm.exec) (hb : c.code = cc) (hml : c.maxLocals = nL) (hown : s.vm.findClass own = some m.cls) (hts : ∀ w ∈ Ts, w.before args s = true) (hK : KK D ca s) (hA : ∀ q, H0.size ≤ q → A q) (hP : va_P D vwCl W0 H) (hD : va_D A W0) (hS : va_S A H0 H locs) (As rest : List Value)
    (hM : UP l D ca y ws fr lo mc ms W0 (.ref b :: As) Om) (hg : GoodIn Ts (wsV own index y.cls y ws)) (hw : ws = Cond.code y bytes maxL ret1 :: ws') (hd : y.cls = cq.1 ∧ y.cls ≠ "java/lang/invoke/MethodHandle" ∧ y.cls ≠ "java/lang/invoke/VarHandle" ∧ (parseMethodDescriptor y.desc).map (fun d => d.parameters.length) = some As.length)
    (hR : fr + 1 ≤ R.frames ∧ 8 + (maxL + 11) + lo ≤ R.locals) (hc : vwCl[ci]? = some cq) (he : W0[q0]? = some (b, .inr (ci, fs)))
    (hst : st0 = As.reverse ++ .ref b :: rest) (hsz : ls.size = nL) (hroom : (rest.map fun v => v.category).sum ≤ 8) (hf : cells + mc ≤ R.cells ∧ slots + ms ≤ R.slots) (hdg : decode cc pc = .ok (.invokevirtual index, 3))
    (kk : ∀ (v : Option Value) (W1 : va_W) (H1 : Heap) (locs1 : List Loc), Om v W1 → va_P D vwCl W1 H1 → va_D A W1 → va_S A H0 H1 locs1 → W p l e R s m args below meth c H1 locs1 (cells + mc) (slots + ms) Q (F0 m (pc + 3) ls (v.toList ++ rest))) : W p l e R s m args below meth c H locs cells slots Q (F0 m pc ls st0) :=
  uV (wr := []) hx hb hml hown hts hK hA hP hD hS As rest hM hg hw hd hR hc he (List.range W0.length) [] (range_map W0) rfl ⟨nd_range _, rfl⟩ (fun _ h => absurd h List.not_mem_nil) hst hsz hroom hf hdg kk
end LAWC
theorem XI_0 {ca : Nat → ClassId} {x : Nat} {S : Nat → Nat} {n : Nat} {U : Nat → Nat → Nat} {bb : Nat → Nat} {V : Nat → Nat → Nat} {LL : Nat} {T : Nat → Nat} {e1 w : Nat} {WX : va_W} (h : XI ca x S n U bb V LL T e1 w WX) (WM : va_W) : ∃ fs, (WX ++ WM)[0]? = some (x, .inr (3, fs)) := by
  obtain ⟨pr, sc, sa, sl, sch, tx, ip, ic, sv, Z, UU, c, P, K, vW, vT, o0, o1, wS, wE, rfl, -⟩ := h
  exact ⟨_, rfl⟩
theorem MI_0 {ca : Nat → ClassId} {mm : Nat} {S : Nat → Nat} {n : Nat} {U : Nat → Nat → Nat} {bb : Nat → Nat} {V : Nat → Nat → Nat} {LL : Nat} {T : Nat → Nat} {e1 : Nat} {WM : va_W} (h : MI ca mm S n U bb V LL T e1 WM) (WX : va_W) : ∃ fs, (WM ++ WX)[0]? = some (mm, .inr (4, fs)) := by
  obtain ⟨r, g, s, h, z, fR, fQ, fD, fP, fB, t, F, P, O, rfl, -⟩ := h
  exact ⟨_, rfl⟩
theorem SG_cfg {S : Nat → Nat} {n : Nat} {U : Nat → Nat → Nat} {bb : Nat → Nat} {V : Nat → Nat → Nat} {LL : Nat} {T : Nat → Nat} {e1 : Nat} (h : SG S n U bb V LL T e1) {a b2 c2 : Int32} (hc : cfgOK a b2 c2) : SG (begS a.toNatClampNeg b2.toNatClampNeg c2.toNatClampNeg) (kpN n) (kU n U S) bb V LL T 0 := by
  obtain ⟨z, hz1, hz2, rfl⟩ := rgN hc.1 hc.2.1 (by decide) (by decide)
  obtain ⟨y, hy1, hy2, rfl⟩ := rgN hc.2.2.1 hc.2.2.2.1 (by decide) (by decide)
  obtain ⟨q, hq1, hq2, rfl⟩ := rgN (lo := 0) hc.2.2.2.2.1 hc.2.2.2.2.2 (by decide) (by decide)
  rw [nI_clamp (by omega), nI_clamp (by omega), nI_clamp (by omega)]
  exact SG_ch h (SOK_beg ⟨hz1, hz2⟩ ⟨hy1, hy2⟩ hq2)
theorem SG_st {S : Nat → Nat} {n : Nat} {U : Nat → Nat → Nat} {bb : Nat → Nat} {V : Nat → Nat → Nat} {LL : Nat} {T : Nat → Nat} {e1 : Nat} (h : SG S n U bb V LL T e1) {q : Int32} (hc : stepOK S q) : SG (advS S q.toNatClampNeg) (kpN n) (kU n U S) bb V LL T 0 := by
  obtain ⟨j, hj, hq⟩ := inR_j (by have := h.1.2.1; omega) hc.1
  have h2 := hc.2
  rw [hq, nI_clamp (by have := h.1.2.1; omega)] at h2 ⊢
  exact SG_ch h (SOK_adv h.1 (by have := h.1.2.1; omega) h2)
theorem SG_cr {S : Nat → Nat} {n : Nat} {U : Nat → Nat → Nat} {bb : Nat → Nat} {V : Nat → Nat → Nat} {LL : Nat} {T : Nat → Nat} {e1 : Nat} (h : SG S n U bb V LL T e1) {q : Int32} (hc : stepOK S q) : SG (crsS S q.toNatClampNeg) (kpN n) (kU n U S) bb V LL T 0 := by
  obtain ⟨j, hj, hq⟩ := inR_j (by have := h.1.2.1; omega) hc.1
  have h2 := hc.2
  rw [hq, nI_clamp (by have := h.1.2.1; omega)] at h2 ⊢
  exact SG_ch h (SOK_crs h.1 (by have := h.1.2.1; omega) h2)
theorem SG_un {S : Nat → Nat} {n : Nat} {U : Nat → Nat → Nat} {bb : Nat → Nat} {V : Nat → Nat → Nat} {LL : Nat} {T : Nat → Nat} {e1 : Nat} (h : SG S n U bb V LL T e1) (h0 : 0 < n) : SG (U (n - 1)) (n - 1) U bb V LL T 0 :=
  ⟨h.2.2.1 (n - 1) (by omega), by have := h.2.1; omega, fun i hi => h.2.2.1 i (by omega), h.2.2.2.1, h.2.2.2.2.1, h.2.2.2.2.2.1, by decide, fun z => absurd z (by decide)⟩
theorem SG_ap {S : Nat → Nat} {n : Nat} {U : Nat → Nat → Nat} {bb : Nat → Nat} {V : Nat → Nat → Nat} {LL : Nat} {T : Nat → Nat} {e1 : Nat} (h : SG S n U bb V LL T e1) {q : Int32} (hc : chrOK q ∧ LL < 80) : SG S n U bb V (LL + 1) (va_up T LL q.toNatClampNeg) e1 := by
  refine ⟨h.1, h.2.1, h.2.2.1, h.2.2.2.1, by omega, fun i => ?_, h.2.2.2.2.2.2⟩
  obtain ⟨j, h0, hj, hq⟩ := rgN (lo := 0) (hi := 255) hc.1.1 (Int32.not_lt.mpr hc.1.2) (by decide) (by decide)
  unfold va_up
  split
  · rw [hq, nI_clamp (by omega)]; exact hj
  · exact h.2.2.2.2.2.1 i
theorem SG_cl {S : Nat → Nat} {n : Nat} {U : Nat → Nat → Nat} {bb : Nat → Nat} {V : Nat → Nat → Nat} {LL : Nat} {T : Nat → Nat} {e1 : Nat} (h : SG S n U bb V LL T e1) : SG S n U bb V 0 T e1 := ⟨h.1, h.2.1, h.2.2.1, h.2.2.2.1, by omega, h.2.2.2.2.2⟩
theorem SOK_ex {X : PS} {n1 : Nat} : ∀ {d i : Nat} {S : Nat → Nat}, n1 ≤ 3 → (∀ j, i ≤ j → j < i + d → X.2.1 j < n1) → SOK S → SOK (exS X d i S)
  | 0, _, _, _, _, h => h
  | d + 1, i, S, hn, hp, h => SOK_ex (d := d) (i := i + 1) hn (fun j a b => hp j (by omega) (by omega)) (SOK_run _ S _ h (by have := hp i (Nat.le_refl _) (by omega); omega))
theorem SG_rt {S : Nat → Nat} {n : Nat} {U : Nat → Nat → Nat} {bb : Nat → Nat} {V : Nat → Nat → Nat} {LL : Nat} {T : Nat → Nat} {e1 : Nat} (h : SG S n U bb V LL T e1) (P0 K0 : Nat → Nat) : SG (exS (rdF T LL (S 1) LL 0 0 (0, P0, K0)).2 (rdF T LL (S 1) LL 0 0 (0, P0, K0)).2.1 0 S) (kpN n) (kU n U S) bb V 0 T 0 :=
  SG_cl (SG_ch h (SOK_ex (n1 := S 1) h.1.2.1.2 (fun j _ hj => (it_rd (fun i hi => absurd hi (Nat.not_lt_zero i)) j (by omega)).1) h.1))
theorem SG_sv {S : Nat → Nat} {n : Nat} {U : Nat → Nat → Nat} {bb : Nat → Nat} {V : Nat → Nat → Nat} {LL : Nat} {T : Nat → Nat} {e1 : Nat} (h : SG S n U bb V LL T e1) (j : Nat) : SG S n U (va_up bb j 1) (va_up V j S) LL T e1 := by
  refine ⟨h.1, h.2.1, h.2.2.1, fun i hi => ?_, h.2.2.2.2⟩
  by_cases c : i = j
  · subst c
    rw [va_up_self, va_up_self]
    exact ⟨by decide, fun _ => h.1⟩
  · rw [va_up_ne _ _ c, va_up_ne _ _ c]
    exact h.2.2.2.1 i hi
theorem SG_rs {S : Nat → Nat} {n : Nat} {U : Nat → Nat → Nat} {bb : Nat → Nat} {V : Nat → Nat → Nat} {LL : Nat} {T : Nat → Nat} {e1 : Nat} (h : SG S n U bb V LL T e1) {j : Nat} (hj : j < 2) (hb : bb j ≠ 0) : SG (V j) 0 U bb V LL T 0 :=
  ⟨(h.2.2.2.1 j hj).2 hb, by decide, fun i hi => absurd hi (Nat.not_lt_zero i), h.2.2.2.1, h.2.2.2.2.1, h.2.2.2.2.2.1, by decide, fun z => absurd z (by decide)⟩
theorem q_lt {k L : Nat} (hL : L ≤ 2048) (hk : 4 * k ≤ 2052) : nI L - nI 4 < nI (4 * k) ↔ L < 4 * k + 4 := by
  rw [Int32.lt_iff_toInt_lt, Int32.toInt_sub, nI_toInt (by omega), nI_toInt (by decide), nI_toInt (by omega)]
  rw [Int.bmod_eq_of_le (by omega) (by omega)]
  omega
/-- the loop's head, for the k-th call -/
def LGo (p : Program) (l : Launch) (e : Env) (s : State) (m : MethodId) (below : List Frame) (meth : Method) (c : Code) (b : Nat) (D : va_G) (ca : Nat → ClassId) (x mm k : Nat) : Prop :=
  ∀ (S : Nat → Nat) (n : Nat) (U : Nat → Nat → Nat) (bb : Nat → Nat) (V : Nat → Nat → Nat) (LL : Nat) (T : Nat → Nat) (e1 w : Nat) (WX WM : va_W) (cells slots : Nat) (H : Heap) (locs : List Loc) (ls : Array Slot), SG S n U bb V LL T e1 → XI ca x S n U bb V LL T e1 w WX → MI ca mm S n U bb V LL T e1 WM → w ≤ 1 → cells + (513 - k) + 6 * (1 - w) ≤ 672241 → slots + 8 * (513 - k) + 20263 * (1 - w) ≤ 7085524 → va_P D vwCl (WX ++ WM) H → va_D (fun q : Nat => s.heap.size ≤ q) (WX ++ WM) → va_S (fun q : Nat => s.heap.size ≤ q) s.heap H locs → lv_has ls 4 [(3, .int (nI (4 * k))), (0, .ref b), (1, .ref x), (2, .ref mm)] →
    W p l e room_1 s m #[Value.ref b] below meth c H locs cells slots (lw_Z below #[Value.ref b] s) (F0 m 18 ls [])
/-- behind a call: the next one -/
theorem k_next {p : Program} {e : Env} {s : State} {m : MethodId} {below : List Frame} {meth : Method} {c : Code} (l : Launch) {b L : Nat} {xs : Nat → Int32} (hL : L ≤ 2048) (C0 : lw_At p s m meth c b L xs) (D : va_G) (ca : Nat → ClassId) (hK : KK D ca s) (x mm k : Nat) (hk : 4 * k + 4 ≤ L) (ih : LGo p l e s m below meth c b D ca x mm (k + 1)) (S : Nat → Nat) (n : Nat) (U : Nat → Nat → Nat) (bb : Nat → Nat) (V : Nat → Nat → Nat) (LL : Nat) (T : Nat → Nat) (e1 w : Nat) (hσ : SG S n U bb V LL T e1) (WX WM : va_W) (hX : XI ca x S n U bb V LL T e1 w WX) (hM : MI ca mm S n U bb V LL T e1 WM) (hw : w ≤ 1) (cells slots : Nat) (hc : cells + (513 - (k + 1)) + 6 * (1 - w) ≤ 672241) (hs : slots + 8 * (513 - (k + 1)) + 20263 * (1 - w) ≤ 7085524) (H : Heap) (locs : List Loc) (ls : Array Slot) (hP : va_P D vwCl (WX ++ WM) H) (hD : va_D (fun q : Nat => s.heap.size ≤ q) (WX ++ WM)) (hS : va_S (fun q : Nat => s.heap.size ≤ q) s.heap H locs) (hl : lv_has ls 4 [(3, .int (nI (4 * k))), (0, .ref b), (1, .ref x), (2, .ref mm)]) : W p l e room_1 s m #[Value.ref b] below meth c H locs cells slots (lw_Z below #[Value.ref b] s) (F0 m 761 ls []) := by
  obtain ⟨hx, hb, hr, hml, hown, hts0, hXs, hbl, hlocks, hgv⟩ := id C0
  refine lv_iinc (v := nI (4 * (k + 1))) (lv' := [(3, .int (nI (4 * (k + 1)))), (0, .ref b), (1, .ref x), (2, .ref mm)]) hx hb dL_law_761 hl (k := 0) rfl (show nI (4 * k) + Int32.ofInt 4 = nI (4 * (k + 1)) from by rw [show 4 * (k + 1) = 4 * k + 4 by omega]; exact nI_add _ 4) (by decide) rfl (fun ls hl => ?_)
  refine lv_goto (tgt := 18) hx hb dL_law_764 (by decide) ?_
  exact ih S n U bb V LL T e1 w WX WM cells slots H locs ls hσ hX hM hw hc hs hP hD hS hl
