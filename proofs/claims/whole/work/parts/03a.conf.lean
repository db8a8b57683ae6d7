/-! ===== a configuration packed as the class has it: fields, one step ===== -/
def stC (C p : Nat) : Nat := gF C (8 * p) 2
def phC (C p : Nat) : Nat := gF C (8 * p + 2) 2
def spC (C p : Nat) : Nat := gF C (8 * p + 4) 4
def owC (C s : Nat) : Nat := gF C (24 + 3 * s) 2
def doC (C s : Nat) : Nat := gF C (24 + 3 * s + 2) 1
def nmC (C p : Nat) : Int32 := if stC C p = 1 then nI (spC C p) else -9
def ownV (C s : Nat) : Int32 := if owC C s = 0 then -9 else nI (owC C s - 1)
def dgn (s : Nat) : Nat := if s < 1 then 0 else if s < 3 then 1 else if s < 6 then 2 else 3
def movC (C p k d : Nat) : Nat := if k ≤ dgn (spC C p) + 1 then sF C (8 * p) 8 2 else sF C (8 * p) 8 ((spC C p + (dgn (spC C p) + 1) + d) * 16)
def stepC (C p k g : Nat) : Nat :=
  if phC C p = 0 then sF (sF C (24 + 3 * spC C p) 2 (p + 1)) (8 * p + 2) 2 (if g = 1 then 2 else 1)
  else if phC C p = 1 then (if doC C (spC C p) = 1 then movC C p k 0 else sF C (8 * p + 2) 2 2)
  else if phC C p = (if g = 2 then 2 else 3) then
    (if owC C (spC C p) = p + 1 then (if phC C p = 2 then sF C (8 * p + 2) 2 3 else sF C (8 * p) 2 1) else movC C p k 1)
  else (if phC C p = 2 then sF (sF C (24 + 3 * spC C p + 2) 1 1) (8 * p + 2) 2 3 else sF (sF C (24 + 3 * spC C p + 2) 1 1) (8 * p) 2 1)
theorem stC_lt (C p : Nat) : stC C p < 4 := gF_lt _ _ _
theorem phC_lt (C p : Nat) : phC C p < 4 := gF_lt _ _ _
theorem spC_lt (C p : Nat) : spC C p < 16 := gF_lt _ _ _
theorem owC_lt (C p : Nat) : owC C p < 4 := gF_lt _ _ _
theorem doC_lt (C p : Nat) : doC C p < 2 := gF_lt _ _ _
theorem stC_b (C p : Nat) : stC C p < 2 ^ 31 := Nat.lt_trans (stC_lt C p) (by decide)
theorem phC_b (C p : Nat) : phC C p < 2 ^ 31 := Nat.lt_trans (phC_lt C p) (by decide)
theorem spC_b (C p : Nat) : spC C p < 2 ^ 31 := Nat.lt_trans (spC_lt C p) (by decide)
theorem owC_b (C p : Nat) : owC C p < 2 ^ 31 := Nat.lt_trans (owC_lt C p) (by decide)
theorem doC_b (C p : Nat) : doC C p < 2 ^ 31 := Nat.lt_trans (doC_lt C p) (by decide)
theorem dgn_le (s : Nat) : dgn s ≤ 3 := by unfold dgn; split; omega; split; omega; split <;> omega
theorem dgn_6 {s : Nat} (h : dgn s < 3) : s < 6 := by unfold dgn at h; split at h; omega; split at h; omega; split at h <;> omega
theorem pow_4 (x q : Nat) : x * 2 ^ (q + 4) = x * 16 * 2 ^ q := by rw [Nat.pow_add, Nat.mul_comm (2 ^ q), ← Nat.mul_assoc]
theorem ownV_eq {C s p : Nat} (hp : p < 3) : ownV C s = nI p ↔ owC C s = p + 1 := by
  have hb := owC_lt C s
  unfold ownV
  by_cases h : owC C s = 0
  · rw [if_pos h]
    constructor
    · intro q
      exfalso
      have h1 : p = 0 ∨ p = 1 ∨ p = 2 := by omega
      rcases h1 with rfl | rfl | rfl <;> exact absurd q (by decide)
    · intro q
      omega
  · rw [if_neg h, nI_eq (by omega) (by omega)]
    omega
theorem movC_lt {C p k d : Nat} (hC : C < 2 ^ 54) (hp : p < 3) (hk : k ≤ 4) (hd : d ≤ 1) : movC C p k d < 2 ^ 54 := by
  unfold movC
  split
  · exact sF_lt (by decide) hC (by omega)
  · have h1 := dgn_6 (s := spC C p) (by omega)
    have h2 := dgn_le (spC C p)
    exact sF_lt (by omega) hC (by omega)
theorem stepC_lt {C p k g : Nat} (hC : C < 2 ^ 54) (hp : p < 3) (hk : k ≤ 4) (hs : spC C p < 10) : stepC C p k g < 2 ^ 54 := by
  unfold stepC
  have h2 : (2 : Nat) ^ 2 = 4 := rfl
  repeat' split
  all_goals first
    | exact movC_lt hC hp hk (by decide)
    | exact sF_lt (by decide) hC (by omega)
    | exact sF_lt (by decide) (sF_lt (by omega) hC (by omega)) (by omega)
    | exact sF_lt (by omega) (sF_lt (by omega) hC (by omega)) (by omega)

set_option maxHeartbeats 4000000 in
set_option maxRecDepth 100000 in
theorem c_X0_statusIn (l : Launch) (D : va_G) (ca : Nat → ClassId) (C p : Nat) (hC : C < 2 ^ 54) (hp : p < 3) : RD l D ca yX0_statusIn wsX0_statusIn 0 0 [] [.long (lN C), .int (nI p)] (.int (nI (stC C p))) := by
  refine RD.start (cc := cX0_statusIn) (maxL := 3) (ret := (some .int)) (by decide) rfl (Nat.le_of_ble_eq_true rfl) ?_
  intro p_ e_ s_ m_ below_ meth_ c_ hx hb hml hr hlocks hown hts hP hK ls hl
  have hown : s_.vm.findClass RX0 = some m_.cls := hown
  have hl : lv_has ls 3 [(0, .long (lN C)), (2, .int (nI p))] := hl
  refine lv_lload_n hx hb dX0_statusIn_0 rfl (lv_at hl 0 rfl) ?_
  refine lv_bipush (v := nI 8) hx hb dX0_statusIn_1 (by decide) ?_
  refine lv_iload_n hx hb dX0_statusIn_3 rfl (lv_at hl 1 rfl) ?_
  refine n_imul hx hb dX0_statusIn_4 ?_
  refine n_lushr hx hb (by omega) (by omega) dX0_statusIn_5 ?_
  refine n_l2i hx hb dX0_statusIn_6 ?_
  refine lv_iconst (v := nI 3) hx hb dX0_statusIn_7 (by decide) ?_
  refine n_iand hx hb 2 (by decide) dX0_statusIn_8 ?_
  exact rRetI hx hb hr hlocks rfl dX0_statusIn_9

set_option maxHeartbeats 4000000 in
set_option maxRecDepth 100000 in
theorem c_X0_phaseIn (l : Launch) (D : va_G) (ca : Nat → ClassId) (C p : Nat) (hC : C < 2 ^ 54) (hp : p < 3) : RD l D ca yX0_phaseIn wsX0_phaseIn 0 0 [] [.long (lN C), .int (nI p)] (.int (nI (phC C p))) := by
  refine RD.start (cc := cX0_phaseIn) (maxL := 3) (ret := (some .int)) (by decide) rfl (Nat.le_of_ble_eq_true rfl) ?_
  intro p_ e_ s_ m_ below_ meth_ c_ hx hb hml hr hlocks hown hts hP hK ls hl
  have hown : s_.vm.findClass RX0 = some m_.cls := hown
  have hl : lv_has ls 3 [(0, .long (lN C)), (2, .int (nI p))] := hl
  refine lv_lload_n hx hb dX0_phaseIn_0 rfl (lv_at hl 0 rfl) ?_
  refine lv_bipush (v := nI 8) hx hb dX0_phaseIn_1 (by decide) ?_
  refine lv_iload_n hx hb dX0_phaseIn_3 rfl (lv_at hl 1 rfl) ?_
  refine n_imul hx hb dX0_phaseIn_4 ?_
  refine lv_iconst (v := nI 2) hx hb dX0_phaseIn_5 (by decide) ?_
  refine n_iadd hx hb dX0_phaseIn_6 ?_
  refine n_lushr hx hb (by omega) (by omega) dX0_phaseIn_7 ?_
  refine n_l2i hx hb dX0_phaseIn_8 ?_
  refine lv_iconst (v := nI 3) hx hb dX0_phaseIn_9 (by decide) ?_
  refine n_iand hx hb 2 (by decide) dX0_phaseIn_10 ?_
  exact rRetI hx hb hr hlocks rfl dX0_phaseIn_11

set_option maxHeartbeats 4000000 in
set_option maxRecDepth 100000 in
theorem c_X0_splitterIn (l : Launch) (D : va_G) (ca : Nat → ClassId) (C p : Nat) (hC : C < 2 ^ 54) (hp : p < 3) : RD l D ca yX0_splitterIn wsX0_splitterIn 0 0 [] [.long (lN C), .int (nI p)] (.int (nI (spC C p))) := by
  refine RD.start (cc := cX0_splitterIn) (maxL := 3) (ret := (some .int)) (by decide) rfl (Nat.le_of_ble_eq_true rfl) ?_
  intro p_ e_ s_ m_ below_ meth_ c_ hx hb hml hr hlocks hown hts hP hK ls hl
  have hown : s_.vm.findClass RX0 = some m_.cls := hown
  have hl : lv_has ls 3 [(0, .long (lN C)), (2, .int (nI p))] := hl
  refine lv_lload_n hx hb dX0_splitterIn_0 rfl (lv_at hl 0 rfl) ?_
  refine lv_bipush (v := nI 8) hx hb dX0_splitterIn_1 (by decide) ?_
  refine lv_iload_n hx hb dX0_splitterIn_3 rfl (lv_at hl 1 rfl) ?_
  refine n_imul hx hb dX0_splitterIn_4 ?_
  refine lv_iconst (v := nI 4) hx hb dX0_splitterIn_5 (by decide) ?_
  refine n_iadd hx hb dX0_splitterIn_6 ?_
  refine n_lushr hx hb (by omega) (by omega) dX0_splitterIn_7 ?_
  refine n_l2i hx hb dX0_splitterIn_8 ?_
  refine lv_bipush (v := nI 15) hx hb dX0_splitterIn_9 (by decide) ?_
  refine n_iand hx hb 4 (by decide) dX0_splitterIn_11 ?_
  exact rRetI hx hb hr hlocks rfl dX0_splitterIn_12

set_option maxHeartbeats 4000000 in
set_option maxRecDepth 100000 in
theorem c_X0_nameIn (l : Launch) (D : va_G) (ca : Nat → ClassId) (C p : Nat) (hC : C < 2 ^ 54) (hp : p < 3) : RD l D ca yX0_nameIn wsX0_nameIn 1 22 [] [.long (lN C), .int (nI p)] (.int ((nmC C p))) := by
  refine RD.start (cc := cX0_nameIn) (maxL := 3) (ret := (some .int)) (by decide) rfl (Nat.le_of_ble_eq_true rfl) ?_
  intro p_ e_ s_ m_ below_ meth_ c_ hx hb hml hr hlocks hown hts hP hK ls hl
  have hown : s_.vm.findClass RX0 = some m_.cls := hown
  have hl : lv_has ls 3 [(0, .long (lN C)), (2, .int (nI p))] := hl
  refine lv_lload_n hx hb dX0_nameIn_0 rfl (lv_at hl 0 rfl) ?_
  refine lv_iload_n hx hb dX0_nameIn_1 rfl (lv_at hl 1 rfl) ?_
  refine rdS (nL := 3) hx hb hml hown hts hK hP [.long (lN C), .int (nI p)] [] (c_X0_statusIn l D ca C p hC hp) gX0_nameIn_X0_statusIn rfl qX0_statusIn ⟨Nat.le_of_ble_eq_true rfl, Nat.le_of_ble_eq_true rfl⟩ [] rfl rfl hl.1 (Nat.le_of_ble_eq_true rfl) ⟨Nat.le_of_ble_eq_true rfl, Nat.le_of_ble_eq_true rfl⟩ dX0_nameIn_2 ?_
  refine lv_iconst (v := nI 1) hx hb dX0_nameIn_5 (by decide) ?_
  refine n_ic_ne (tgt := 17) hx hb dX0_nameIn_6 (by decide) (stC_b _ _) (by decide) (fun c6 => ?_) (fun c6 => ?_)
  · refine lv_bipush (v := -9) hx hb dX0_nameIn_17 (by decide) ?_
    exact rRetI hx hb hr hlocks (congrArg (fun z => Value.int z) (by first | (exfalso; omega) | simp [nmC, c6])) dX0_nameIn_19
  · refine lv_lload_n hx hb dX0_nameIn_9 rfl (lv_at hl 0 rfl) ?_
    refine lv_iload_n hx hb dX0_nameIn_10 rfl (lv_at hl 1 rfl) ?_
    refine rdS (nL := 3) hx hb hml hown hts hK hP [.long (lN C), .int (nI p)] [] (c_X0_splitterIn l D ca C p hC hp) gX0_nameIn_X0_splitterIn rfl qX0_splitterIn ⟨Nat.le_of_ble_eq_true rfl, Nat.le_of_ble_eq_true rfl⟩ [] rfl rfl hl.1 (Nat.le_of_ble_eq_true rfl) ⟨Nat.le_of_ble_eq_true rfl, Nat.le_of_ble_eq_true rfl⟩ dX0_nameIn_11 ?_
    refine lv_goto (tgt := 19) hx hb dX0_nameIn_14 (by decide) ?_
    exact rRetI hx hb hr hlocks (congrArg (fun z => Value.int z) (by first | (exfalso; omega) | simp [nmC, c6])) dX0_nameIn_19

set_option maxHeartbeats 4000000 in
set_option maxRecDepth 100000 in
theorem c_X0_ownerShift (l : Launch) (D : va_G) (ca : Nat → ClassId) (t : Nat) : RD l D ca yX0_ownerShift wsX0_ownerShift 0 0 [] [.int (nI t)] (.int (nI (24 + 3 * t))) := by
  refine RD.start (cc := cX0_ownerShift) (maxL := 1) (ret := (some .int)) (by decide) rfl (Nat.le_of_ble_eq_true rfl) ?_
  intro p_ e_ s_ m_ below_ meth_ c_ hx hb hml hr hlocks hown hts hP hK ls hl
  have hown : s_.vm.findClass RX0 = some m_.cls := hown
  have hl : lv_has ls 1 [(0, .int (nI t))] := hl
  refine lv_bipush (v := nI 24) hx hb dX0_ownerShift_0 (by decide) ?_
  refine lv_iconst (v := nI 3) hx hb dX0_ownerShift_2 (by decide) ?_
  refine lv_iload_n hx hb dX0_ownerShift_3 rfl (lv_at hl 0 rfl) ?_
  refine n_imul hx hb dX0_ownerShift_4 ?_
  refine n_iadd hx hb dX0_ownerShift_5 ?_
  exact rRetI hx hb hr hlocks rfl dX0_ownerShift_6

set_option maxHeartbeats 4000000 in
set_option maxRecDepth 100000 in
theorem c_X0_ownerIn (l : Launch) (D : va_G) (ca : Nat → ClassId) (C t : Nat) (hC : C < 2 ^ 54) (ht : t < 10) : RD l D ca yX0_ownerIn wsX0_ownerIn 1 20 [] [.long (lN C), .int (nI t)] (.int ((ownV C t))) := by
  refine RD.start (cc := cX0_ownerIn) (maxL := 4) (ret := (some .int)) (by decide) rfl (Nat.le_of_ble_eq_true rfl) ?_
  intro p_ e_ s_ m_ below_ meth_ c_ hx hb hml hr hlocks hown hts hP hK ls hl
  have hown : s_.vm.findClass RX0 = some m_.cls := hown
  have hl : lv_has ls 4 [(0, .long (lN C)), (2, .int (nI t))] := hl
  refine lv_lload_n hx hb dX0_ownerIn_0 rfl (lv_at hl 0 rfl) ?_
  refine lv_iload_n hx hb dX0_ownerIn_1 rfl (lv_at hl 1 rfl) ?_
  refine rdS (nL := 4) hx hb hml hown hts hK hP [.int (nI t)] [.long (lN C)] (c_X0_ownerShift l D ca t) gX0_ownerIn_X0_ownerShift rfl qX0_ownerShift ⟨Nat.le_of_ble_eq_true rfl, Nat.le_of_ble_eq_true rfl⟩ [] rfl rfl hl.1 (Nat.le_of_ble_eq_true rfl) ⟨Nat.le_of_ble_eq_true rfl, Nat.le_of_ble_eq_true rfl⟩ dX0_ownerIn_2 ?_
  refine n_lushr hx hb (by omega) (by omega) dX0_ownerIn_5 ?_
  refine n_l2i hx hb dX0_ownerIn_6 ?_
  refine lv_iconst (v := nI 3) hx hb dX0_ownerIn_7 (by decide) ?_
  refine n_iand hx hb 2 (by decide) dX0_ownerIn_8 ?_
  rw [show nI (C / 2 ^ (24 + 3 * t) % 2 ^ 2) = nI (owC C t) from rfl]
  refine lv_istore_n (lv' := [(3, .int (nI (owC C t))), (0, .long (lN C)), (2, .int (nI t))]) hx hb dX0_ownerIn_9 rfl hl (by decide) rfl (fun ls hl => ?_)
  refine lv_iload_n hx hb dX0_ownerIn_10 rfl (lv_at hl 0 rfl) ?_
  refine n_if_ne (tgt := 19) hx hb dX0_ownerIn_11 (by decide) (owC_b C t) (fun c11 => ?_) (fun c11 => ?_)
  · refine lv_iload_n hx hb dX0_ownerIn_19 rfl (lv_at hl 0 rfl) ?_
    refine lv_iconst (v := nI 1) hx hb dX0_ownerIn_20 (by decide) ?_
    refine n_isub hx hb (show 1 ≤ owC C t by omega) dX0_ownerIn_21 ?_
    exact rRetI hx hb hr hlocks (congrArg (fun z => Value.int z) (by first | (exfalso; omega) | simp [ownV, c11])) dX0_ownerIn_22
  · refine lv_bipush (v := -9) hx hb dX0_ownerIn_14 (by decide) ?_
    refine lv_goto (tgt := 22) hx hb dX0_ownerIn_16 (by decide) ?_
    exact rRetI hx hb hr hlocks (congrArg (fun z => Value.int z) (by first | (exfalso; omega) | simp [ownV, c11])) dX0_ownerIn_22

set_option maxHeartbeats 4000000 in
set_option maxRecDepth 100000 in
theorem c_X0_doorIn (l : Launch) (D : va_G) (ca : Nat → ClassId) (C t : Nat) (hC : C < 2 ^ 54) (ht : t < 10) : RD l D ca yX0_doorIn wsX0_doorIn 1 20 [] [.long (lN C), .int (nI t)] (.int (nI (doC C t))) := by
  refine RD.start (cc := cX0_doorIn) (maxL := 3) (ret := (some .int)) (by decide) rfl (Nat.le_of_ble_eq_true rfl) ?_
  intro p_ e_ s_ m_ below_ meth_ c_ hx hb hml hr hlocks hown hts hP hK ls hl
  have hown : s_.vm.findClass RX0 = some m_.cls := hown
  have hl : lv_has ls 3 [(0, .long (lN C)), (2, .int (nI t))] := hl
  refine lv_lload_n hx hb dX0_doorIn_0 rfl (lv_at hl 0 rfl) ?_
  refine lv_iload_n hx hb dX0_doorIn_1 rfl (lv_at hl 1 rfl) ?_
  refine rdS (nL := 3) hx hb hml hown hts hK hP [.int (nI t)] [.long (lN C)] (c_X0_ownerShift l D ca t) gX0_doorIn_X0_ownerShift rfl qX0_ownerShift ⟨Nat.le_of_ble_eq_true rfl, Nat.le_of_ble_eq_true rfl⟩ [] rfl rfl hl.1 (Nat.le_of_ble_eq_true rfl) ⟨Nat.le_of_ble_eq_true rfl, Nat.le_of_ble_eq_true rfl⟩ dX0_doorIn_2 ?_
  refine lv_iconst (v := nI 2) hx hb dX0_doorIn_5 (by decide) ?_
  refine n_iadd hx hb dX0_doorIn_6 ?_
  refine n_lushr hx hb (by omega) (by omega) dX0_doorIn_7 ?_
  refine n_l2i hx hb dX0_doorIn_8 ?_
  refine lv_iconst (v := nI 1) hx hb dX0_doorIn_9 (by decide) ?_
  refine n_iand hx hb 1 (by decide) dX0_doorIn_10 ?_
  exact rRetI hx hb hr hlocks rfl dX0_doorIn_11

set_option maxHeartbeats 4000000 in
set_option maxRecDepth 100000 in
theorem c_X0_withStatus (l : Launch) (D : va_G) (ca : Nat → ClassId) (C p v : Nat) (hC : C < 2 ^ 54) (hp : p < 3) (hv : v < 4) : RD l D ca yX0_withStatus wsX0_withStatus 0 0 [] [.long (lN C), .int (nI p), .int (nI v)] (.long (lN (sF C (8 * p) 2 v))) := by
  refine RD.start (cc := cX0_withStatus) (maxL := 5) (ret := (some .long)) (by decide) rfl (Nat.le_of_ble_eq_true rfl) ?_
  intro p_ e_ s_ m_ below_ meth_ c_ hx hb hml hr hlocks hown hts hP hK ls hl
  have hown : s_.vm.findClass RX0 = some m_.cls := hown
  have hl : lv_has ls 5 [(0, .long (lN C)), (2, .int (nI p)), (3, .int (nI v))] := hl
  refine lv_bipush (v := nI 8) hx hb dX0_withStatus_0 (by decide) ?_
  refine lv_iload_n hx hb dX0_withStatus_2 rfl (lv_at hl 1 rfl) ?_
  refine n_imul hx hb dX0_withStatus_3 ?_
  refine lv_istore (lv' := [(4, .int (nI (8 * p))), (0, .long (lN C)), (2, .int (nI p)), (3, .int (nI v))]) hx hb dX0_withStatus_4 hl (by decide) rfl (fun ls hl => ?_)
  refine lv_lload_n hx hb dX0_withStatus_6 rfl (lv_at hl 1 rfl) ?_
  refine lv_ldc2 (v := lN 3) hx hb hown (hts (.constantLong RX0 22 (3)) (List.mem_of_getElem? (i := 1) rfl)) dX0_withStatus_7 ?_
  refine lv_iload hx hb dX0_withStatus_10 (lv_at hl 0 rfl) ?_
  refine n_lshl hx hb (by omega) dX0_withStatus_12 ?_
  refine lv_ldc2 (v := -1) hx hb hown (hts (.constantLong RX0 24 (-1)) (List.mem_of_getElem? (i := 2) rfl)) dX0_withStatus_13 ?_
  refine lv_lxor hx hb dX0_withStatus_16 ?_
  refine lv_land hx hb dX0_withStatus_17 ?_
  refine lv_iload_n hx hb dX0_withStatus_18 rfl (lv_at hl 3 rfl) ?_
  refine n_i2l hx hb (by omega) dX0_withStatus_19 ?_
  refine lv_iload hx hb dX0_withStatus_20 (lv_at hl 0 rfl) ?_
  refine n_lshl hx hb (by omega) dX0_withStatus_22 ?_
  refine lv_lor hx hb dX0_withStatus_23 ?_
  exact rRetL hx hb hr hlocks (congrArg Value.long (setL (n := C) (w := 2) (v := v) hv (by omega))) dX0_withStatus_24

set_option maxHeartbeats 4000000 in
set_option maxRecDepth 100000 in
theorem c_X0_withPhase (l : Launch) (D : va_G) (ca : Nat → ClassId) (C p v : Nat) (hC : C < 2 ^ 54) (hp : p < 3) (hv : v < 4) : RD l D ca yX0_withPhase wsX0_withPhase 0 0 [] [.long (lN C), .int (nI p), .int (nI v)] (.long (lN (sF C (8 * p + 2) 2 v))) := by
  refine RD.start (cc := cX0_withPhase) (maxL := 5) (ret := (some .long)) (by decide) rfl (Nat.le_of_ble_eq_true rfl) ?_
  intro p_ e_ s_ m_ below_ meth_ c_ hx hb hml hr hlocks hown hts hP hK ls hl
  have hown : s_.vm.findClass RX0 = some m_.cls := hown
  have hl : lv_has ls 5 [(0, .long (lN C)), (2, .int (nI p)), (3, .int (nI v))] := hl
  refine lv_bipush (v := nI 8) hx hb dX0_withPhase_0 (by decide) ?_
  refine lv_iload_n hx hb dX0_withPhase_2 rfl (lv_at hl 1 rfl) ?_
  refine n_imul hx hb dX0_withPhase_3 ?_
  refine lv_iconst (v := nI 2) hx hb dX0_withPhase_4 (by decide) ?_
  refine n_iadd hx hb dX0_withPhase_5 ?_
  refine lv_istore (lv' := [(4, .int (nI ((8 * p) + 2))), (0, .long (lN C)), (2, .int (nI p)), (3, .int (nI v))]) hx hb dX0_withPhase_6 hl (by decide) rfl (fun ls hl => ?_)
  refine lv_lload_n hx hb dX0_withPhase_8 rfl (lv_at hl 1 rfl) ?_
  refine lv_ldc2 (v := lN 3) hx hb hown (hts (.constantLong RX0 22 (3)) (List.mem_of_getElem? (i := 1) rfl)) dX0_withPhase_9 ?_
  refine lv_iload hx hb dX0_withPhase_12 (lv_at hl 0 rfl) ?_
  refine n_lshl hx hb (by omega) dX0_withPhase_14 ?_
  refine lv_ldc2 (v := -1) hx hb hown (hts (.constantLong RX0 24 (-1)) (List.mem_of_getElem? (i := 2) rfl)) dX0_withPhase_15 ?_
  refine lv_lxor hx hb dX0_withPhase_18 ?_
  refine lv_land hx hb dX0_withPhase_19 ?_
  refine lv_iload_n hx hb dX0_withPhase_20 rfl (lv_at hl 3 rfl) ?_
  refine n_i2l hx hb (by omega) dX0_withPhase_21 ?_
  refine lv_iload hx hb dX0_withPhase_22 (lv_at hl 0 rfl) ?_
  refine n_lshl hx hb (by omega) dX0_withPhase_24 ?_
  refine lv_lor hx hb dX0_withPhase_25 ?_
  exact rRetL hx hb hr hlocks (congrArg Value.long (setL (n := C) (w := 2) (v := v) hv (by omega))) dX0_withPhase_26

set_option maxHeartbeats 4000000 in
set_option maxRecDepth 100000 in
theorem c_X0_withOwner (l : Launch) (D : va_G) (ca : Nat → ClassId) (C t p : Nat) (hC : C < 2 ^ 54) (ht : t < 10) (hp : p < 3) : RD l D ca yX0_withOwner wsX0_withOwner 1 20 [] [.long (lN C), .int (nI t), .int (nI p)] (.long (lN (sF C (24 + 3 * t) 2 (p + 1)))) := by
  refine RD.start (cc := cX0_withOwner) (maxL := 5) (ret := (some .long)) (by decide) rfl (Nat.le_of_ble_eq_true rfl) ?_
  intro p_ e_ s_ m_ below_ meth_ c_ hx hb hml hr hlocks hown hts hP hK ls hl
  have hown : s_.vm.findClass RX0 = some m_.cls := hown
  have hl : lv_has ls 5 [(0, .long (lN C)), (2, .int (nI t)), (3, .int (nI p))] := hl
  refine lv_iload_n hx hb dX0_withOwner_0 rfl (lv_at hl 1 rfl) ?_
  refine rdS (nL := 5) hx hb hml hown hts hK hP [.int (nI t)] [] (c_X0_ownerShift l D ca t) gX0_withOwner_X0_ownerShift rfl qX0_ownerShift ⟨Nat.le_of_ble_eq_true rfl, Nat.le_of_ble_eq_true rfl⟩ [] rfl rfl hl.1 (Nat.le_of_ble_eq_true rfl) ⟨Nat.le_of_ble_eq_true rfl, Nat.le_of_ble_eq_true rfl⟩ dX0_withOwner_1 ?_
  refine lv_istore (lv' := [(4, .int (nI (24 + 3 * t))), (0, .long (lN C)), (2, .int (nI t)), (3, .int (nI p))]) hx hb dX0_withOwner_4 hl (by decide) rfl (fun ls hl => ?_)
  refine lv_lload_n hx hb dX0_withOwner_6 rfl (lv_at hl 1 rfl) ?_
  refine lv_ldc2 (v := lN 3) hx hb hown (hts (.constantLong RX0 22 (3)) (List.mem_of_getElem? (i := 1) rfl)) dX0_withOwner_7 ?_
  refine lv_iload hx hb dX0_withOwner_10 (lv_at hl 0 rfl) ?_
  refine n_lshl hx hb (by omega) dX0_withOwner_12 ?_
  refine lv_ldc2 (v := -1) hx hb hown (hts (.constantLong RX0 24 (-1)) (List.mem_of_getElem? (i := 2) rfl)) dX0_withOwner_13 ?_
  refine lv_lxor hx hb dX0_withOwner_16 ?_
  refine lv_land hx hb dX0_withOwner_17 ?_
  refine lv_iload_n hx hb dX0_withOwner_18 rfl (lv_at hl 3 rfl) ?_
  refine lv_iconst (v := nI 1) hx hb dX0_withOwner_19 (by decide) ?_
  refine n_iadd hx hb dX0_withOwner_20 ?_
  refine n_i2l hx hb (by omega) dX0_withOwner_21 ?_
  refine lv_iload hx hb dX0_withOwner_22 (lv_at hl 0 rfl) ?_
  refine n_lshl hx hb (by omega) dX0_withOwner_24 ?_
  refine lv_lor hx hb dX0_withOwner_25 ?_
  exact rRetL hx hb hr hlocks (congrArg Value.long (setL (n := C) (w := 2) (v := p + 1) (by omega) (by omega))) dX0_withOwner_26

set_option maxHeartbeats 4000000 in
set_option maxRecDepth 100000 in
theorem c_X0_withDoorClosed (l : Launch) (D : va_G) (ca : Nat → ClassId) (C t : Nat) (hC : C < 2 ^ 54) (ht : t < 10) : RD l D ca yX0_withDoorClosed wsX0_withDoorClosed 1 20 [] [.long (lN C), .int (nI t)] (.long (lN (sF C (24 + 3 * t + 2) 1 1))) := by
  refine RD.start (cc := cX0_withDoorClosed) (maxL := 3) (ret := (some .long)) (by decide) rfl (Nat.le_of_ble_eq_true rfl) ?_
  intro p_ e_ s_ m_ below_ meth_ c_ hx hb hml hr hlocks hown hts hP hK ls hl
  have hown : s_.vm.findClass RX0 = some m_.cls := hown
  have hl : lv_has ls 3 [(0, .long (lN C)), (2, .int (nI t))] := hl
  refine lv_lload_n hx hb dX0_withDoorClosed_0 rfl (lv_at hl 0 rfl) ?_
  refine lv_lconst (v := lN 1) hx hb dX0_withDoorClosed_1 (by decide) ?_
  refine lv_iload_n hx hb dX0_withDoorClosed_2 rfl (lv_at hl 1 rfl) ?_
  refine rdS (nL := 3) hx hb hml hown hts hK hP [.int (nI t)] [.long (lN 1), .long (lN C)] (c_X0_ownerShift l D ca t) gX0_withDoorClosed_X0_ownerShift rfl qX0_ownerShift ⟨Nat.le_of_ble_eq_true rfl, Nat.le_of_ble_eq_true rfl⟩ [] rfl rfl hl.1 (Nat.le_of_ble_eq_true rfl) ⟨Nat.le_of_ble_eq_true rfl, Nat.le_of_ble_eq_true rfl⟩ dX0_withDoorClosed_3 ?_
  refine lv_iconst (v := nI 2) hx hb dX0_withDoorClosed_6 (by decide) ?_
  refine n_iadd hx hb dX0_withDoorClosed_7 ?_
  refine n_lshl hx hb (by omega) dX0_withDoorClosed_8 ?_
  refine lv_lor hx hb dX0_withDoorClosed_9 ?_
  exact rRetL hx hb hr hlocks (congrArg Value.long (by rw [Nat.one_mul]; exact orL (by omega))) dX0_withDoorClosed_10

set_option maxHeartbeats 4000000 in
set_option maxRecDepth 100000 in
theorem c_X0_diagonalOf (l : Launch) (D : va_G) (ca : Nat → ClassId) (t : Nat) (ht : t < 16) : RD l D ca yX0_diagonalOf wsX0_diagonalOf 0 0 [] [.int (nI t)] (.int (nI (dgn t))) := by
  refine RD.start (cc := cX0_diagonalOf) (maxL := 1) (ret := (some .int)) (by decide) rfl (Nat.le_of_ble_eq_true rfl) ?_
  intro p_ e_ s_ m_ below_ meth_ c_ hx hb hml hr hlocks hown hts hP hK ls hl
  have hown : s_.vm.findClass RX0 = some m_.cls := hown
  have hl : lv_has ls 1 [(0, .int (nI t))] := hl
  refine lv_iload_n hx hb dX0_diagonalOf_0 rfl (lv_at hl 0 rfl) ?_
  refine lv_iconst (v := nI 1) hx hb dX0_diagonalOf_1 (by decide) ?_
  refine n_ic_ge (tgt := 7) hx hb dX0_diagonalOf_2 (by decide) (by omega) (by decide) (fun c2 => ?_) (fun c2 => ?_)
  · refine lv_iload_n hx hb dX0_diagonalOf_7 rfl (lv_at hl 0 rfl) ?_
    refine lv_iconst (v := nI 3) hx hb dX0_diagonalOf_8 (by decide) ?_
    refine n_ic_ge (tgt := 14) hx hb dX0_diagonalOf_9 (by decide) (by omega) (by decide) (fun c9 => ?_) (fun c9 => ?_)
    · refine lv_iload_n hx hb dX0_diagonalOf_14 rfl (lv_at hl 0 rfl) ?_
      refine lv_bipush (v := nI 6) hx hb dX0_diagonalOf_15 (by decide) ?_
      refine n_ic_ge (tgt := 24) hx hb dX0_diagonalOf_17 (by decide) (by omega) (by decide) (fun c17 => ?_) (fun c17 => ?_)
      · refine lv_iconst (v := nI 3) hx hb dX0_diagonalOf_24 (by decide) ?_
        exact rRetI hx hb hr hlocks (congrArg (fun z => Value.int (nI z)) (by unfold dgn; (repeat' split) <;> omega)) dX0_diagonalOf_25
      · refine lv_iconst (v := nI 2) hx hb dX0_diagonalOf_20 (by decide) ?_
        refine lv_goto (tgt := 25) hx hb dX0_diagonalOf_21 (by decide) ?_
        exact rRetI hx hb hr hlocks (congrArg (fun z => Value.int (nI z)) (by unfold dgn; (repeat' split) <;> omega)) dX0_diagonalOf_25
    · refine lv_iconst (v := nI 1) hx hb dX0_diagonalOf_12 (by decide) ?_
      exact rRetI hx hb hr hlocks (congrArg (fun z => Value.int (nI z)) (by unfold dgn; (repeat' split) <;> omega)) dX0_diagonalOf_13
  · refine lv_iconst (v := nI 0) hx hb dX0_diagonalOf_5 (by decide) ?_
    exact rRetI hx hb hr hlocks (congrArg (fun z => Value.int (nI z)) (by unfold dgn; (repeat' split) <;> omega)) dX0_diagonalOf_6

set_option maxHeartbeats 4000000 in
set_option maxRecDepth 100000 in
theorem c_X0_moved (l : Launch) (D : va_G) (ca : Nat → ClassId) (C p k d : Nat) (hC : C < 2 ^ 54) (hp : p < 3) (hk : k ≤ 4) (hd : d ≤ 1) : RD l D ca yX0_moved wsX0_moved 1 22 [] [.long (lN C), .int (nI p), .int (nI k), .int (nI d)] (.long (lN (movC C p k d))) := by
  refine RD.start (cc := cX0_moved) (maxL := 12) (ret := (some .long)) (by decide) rfl (Nat.le_of_ble_eq_true rfl) ?_
  intro p_ e_ s_ m_ below_ meth_ c_ hx hb hml hr hlocks hown hts hP hK ls hl
  have hown : s_.vm.findClass RX0 = some m_.cls := hown
  have hl : lv_has ls 12 [(0, .long (lN C)), (2, .int (nI p)), (3, .int (nI k)), (4, .int (nI d))] := hl
  have hsp := spC_lt C p
  have hdg := dgn_le (spC C p)
  refine lv_bipush (v := nI 8) hx hb dX0_moved_0 (by decide) ?_
  refine lv_iload_n hx hb dX0_moved_2 rfl (lv_at hl 1 rfl) ?_
  refine n_imul hx hb dX0_moved_3 ?_
  refine lv_istore (lv' := [(5, .int (nI (8 * p))), (0, .long (lN C)), (2, .int (nI p)), (3, .int (nI k)), (4, .int (nI d))]) hx hb dX0_moved_4 hl (by decide) rfl (fun ls hl => ?_)
  refine lv_lload_n hx hb dX0_moved_6 rfl (lv_at hl 1 rfl) ?_
  refine lv_ldc2 (v := lN 255) hx hb hown (hts (.constantLong RX0 53 (255)) (List.mem_of_getElem? (i := 1) rfl)) dX0_moved_7 ?_
  refine lv_iload hx hb dX0_moved_10 (lv_at hl 0 rfl) ?_
  refine n_lshl hx hb (by omega) dX0_moved_12 ?_
  refine lv_ldc2 (v := -1) hx hb hown (hts (.constantLong RX0 24 (-1)) (List.mem_of_getElem? (i := 2) rfl)) dX0_moved_13 ?_
  refine lv_lxor hx hb dX0_moved_16 ?_
  refine lv_land hx hb dX0_moved_17 ?_
  refine lv_lstore (lv' := [(6, .long (((lN C) &&& (((lN (255 * 2 ^ (8 * p))) ^^^ ((-1))))))), (5, .int (nI (8 * p))), (0, .long (lN C)), (2, .int (nI p)), (3, .int (nI k)), (4, .int (nI d))]) hx hb dX0_moved_18 hl (by decide) rfl (fun ls hl => ?_)
  refine lv_lload_n hx hb dX0_moved_20 rfl (lv_at hl 2 rfl) ?_
  refine lv_iload_n hx hb dX0_moved_21 rfl (lv_at hl 3 rfl) ?_
  refine rdS (nL := 12) hx hb hml hown hts hK hP [.long (lN C), .int (nI p)] [] (c_X0_splitterIn l D ca C p hC hp) gX0_moved_X0_splitterIn rfl qX0_splitterIn ⟨Nat.le_of_ble_eq_true rfl, Nat.le_of_ble_eq_true rfl⟩ [] rfl rfl hl.1 (Nat.le_of_ble_eq_true rfl) ⟨Nat.le_of_ble_eq_true rfl, Nat.le_of_ble_eq_true rfl⟩ dX0_moved_22 ?_
  refine lv_istore (lv' := [(8, .int (nI (spC C p))), (6, .long (((lN C) &&& (((lN (255 * 2 ^ (8 * p))) ^^^ ((-1))))))), (5, .int (nI (8 * p))), (0, .long (lN C)), (2, .int (nI p)), (3, .int (nI k)), (4, .int (nI d))]) hx hb dX0_moved_25 hl (by decide) rfl (fun ls hl => ?_)
  refine lv_iload hx hb dX0_moved_27 (lv_at hl 0 rfl) ?_
  refine rdS (nL := 12) hx hb hml hown hts hK hP [.int (nI (spC C p))] [] (c_X0_diagonalOf l D ca (spC C p) hsp) gX0_moved_X0_diagonalOf rfl qX0_diagonalOf ⟨Nat.le_of_ble_eq_true rfl, Nat.le_of_ble_eq_true rfl⟩ [] rfl rfl hl.1 (Nat.le_of_ble_eq_true rfl) ⟨Nat.le_of_ble_eq_true rfl, Nat.le_of_ble_eq_true rfl⟩ dX0_moved_29 ?_
  refine lv_iconst (v := nI 1) hx hb dX0_moved_32 (by decide) ?_
  refine n_iadd hx hb dX0_moved_33 ?_
  refine lv_istore (lv' := [(9, .int (nI ((dgn (spC C p)) + 1))), (8, .int (nI (spC C p))), (6, .long (((lN C) &&& (((lN (255 * 2 ^ (8 * p))) ^^^ ((-1))))))), (5, .int (nI (8 * p))), (0, .long (lN C)), (2, .int (nI p)), (3, .int (nI k)), (4, .int (nI d))]) hx hb dX0_moved_34 hl (by decide) rfl (fun ls hl => ?_)
  refine lv_iload hx hb dX0_moved_36 (lv_at hl 0 rfl) ?_
  refine lv_iload_n hx hb dX0_moved_38 rfl (lv_at hl 6 rfl) ?_
  refine n_ic_lt (tgt := 52) hx hb dX0_moved_39 (by decide) (by omega) (by omega) (fun c39 => ?_) (fun c39 => ?_)
  · have h6 := dgn_6 (s := spC C p) (by omega)
    refine lv_iload hx hb dX0_moved_52 (lv_at hl 1 rfl) ?_
    refine lv_iload hx hb dX0_moved_54 (lv_at hl 0 rfl) ?_
    refine n_iadd hx hb dX0_moved_56 ?_
    refine lv_iload hx hb dX0_moved_57 (lv_at hl 7 rfl) ?_
    refine n_iadd hx hb dX0_moved_59 ?_
    refine n_i2l hx hb (by omega) dX0_moved_60 ?_
    refine lv_lstore (lv' := [(10, .long (lN (((spC C p) + ((dgn (spC C p)) + 1)) + d))), (9, .int (nI ((dgn (spC C p)) + 1))), (8, .int (nI (spC C p))), (6, .long (((lN C) &&& (((lN (255 * 2 ^ (8 * p))) ^^^ ((-1))))))), (5, .int (nI (8 * p))), (0, .long (lN C)), (2, .int (nI p)), (3, .int (nI k)), (4, .int (nI d))]) hx hb dX0_moved_61 hl (by decide) rfl (fun ls hl => ?_)
    refine lv_lload hx hb dX0_moved_63 (lv_at hl 3 rfl) ?_
    refine lv_lload hx hb dX0_moved_65 (lv_at hl 0 rfl) ?_
    refine lv_iload hx hb dX0_moved_67 (lv_at hl 4 rfl) ?_
    refine lv_iconst (v := nI 4) hx hb dX0_moved_69 (by decide) ?_
    refine n_iadd hx hb dX0_moved_70 ?_
    refine n_lshl hx hb (by omega) dX0_moved_71 ?_
    refine lv_lor hx hb dX0_moved_72 ?_
    exact rRetL hx hb hr hlocks (congrArg Value.long (by rw [pow_4, setL (n := C) (w := 8) (by omega) (by omega)]; unfold movC; rw [if_neg (by omega)])) dX0_moved_73
  · refine lv_lload hx hb dX0_moved_42 (lv_at hl 2 rfl) ?_
    refine lv_ldc2 (v := lN 2) hx hb hown (hts (.constantLong RX0 58 (2)) (List.mem_of_getElem? (i := 3) rfl)) dX0_moved_44 ?_
    refine lv_iload hx hb dX0_moved_47 (lv_at hl 3 rfl) ?_
    refine n_lshl hx hb (by omega) dX0_moved_49 ?_
    refine lv_lor hx hb dX0_moved_50 ?_
    exact rRetL hx hb hr hlocks (congrArg Value.long (by rw [setL (n := C) (w := 8) (v := 2) (by decide) (by omega)]; unfold movC; rw [if_pos c39])) dX0_moved_51

set_option maxHeartbeats 4000000 in
set_option maxRecDepth 100000 in
theorem c_X0_afterStep (l : Launch) (D : va_G) (ca : Nat → ClassId) (C p k g : Nat) (hC : C < 2 ^ 54) (hp : p < 3) (hk : k ≤ 4) (hg : g ≤ 2) (hs : spC C p < 10) : RD l D ca yX0_afterStep wsX0_afterStep 2 53 [] [.long (lN C), .int (nI p), .int (nI k), .int (nI g)] (.long (lN (stepC C p k g))) := by
  refine RD.start (cc := cX0_afterStep) (maxL := 10) (ret := (some .long)) (by decide) rfl (Nat.le_of_ble_eq_true rfl) ?_
  intro p_ e_ s_ m_ below_ meth_ c_ hx hb hml hr hlocks hown hts hP hK ls hl
  have hown : s_.vm.findClass RX0 = some m_.cls := hown
  have hl : lv_has ls 10 [(0, .long (lN C)), (2, .int (nI p)), (3, .int (nI k)), (4, .int (nI g))] := hl
  have hph := phC_lt C p
  have hdo := doC_lt C (spC C p)
  refine lv_lload_n hx hb dX0_afterStep_0 rfl (lv_at hl 0 rfl) ?_
  refine lv_iload_n hx hb dX0_afterStep_1 rfl (lv_at hl 1 rfl) ?_
  refine rdS (nL := 10) hx hb hml hown hts hK hP [.long (lN C), .int (nI p)] [] (c_X0_splitterIn l D ca C p hC hp) gX0_afterStep_X0_splitterIn rfl qX0_splitterIn ⟨Nat.le_of_ble_eq_true rfl, Nat.le_of_ble_eq_true rfl⟩ [] rfl rfl hl.1 (Nat.le_of_ble_eq_true rfl) ⟨Nat.le_of_ble_eq_true rfl, Nat.le_of_ble_eq_true rfl⟩ dX0_afterStep_2 ?_
  refine lv_istore (lv' := [(5, .int (nI (spC C p))), (0, .long (lN C)), (2, .int (nI p)), (3, .int (nI k)), (4, .int (nI g))]) hx hb dX0_afterStep_5 hl (by decide) rfl (fun ls hl => ?_)
  refine lv_lload_n hx hb dX0_afterStep_7 rfl (lv_at hl 1 rfl) ?_
  refine lv_iload_n hx hb dX0_afterStep_8 rfl (lv_at hl 2 rfl) ?_
  refine rdS (nL := 10) hx hb hml hown hts hK hP [.long (lN C), .int (nI p)] [] (c_X0_phaseIn l D ca C p hC hp) gX0_afterStep_X0_phaseIn rfl qX0_phaseIn ⟨Nat.le_of_ble_eq_true rfl, Nat.le_of_ble_eq_true rfl⟩ [] rfl rfl hl.1 (Nat.le_of_ble_eq_true rfl) ⟨Nat.le_of_ble_eq_true rfl, Nat.le_of_ble_eq_true rfl⟩ dX0_afterStep_9 ?_
  refine lv_istore (lv' := [(6, .int (nI (phC C p))), (5, .int (nI (spC C p))), (0, .long (lN C)), (2, .int (nI p)), (3, .int (nI k)), (4, .int (nI g))]) hx hb dX0_afterStep_12 hl (by decide) rfl (fun ls hl => ?_)
  refine lv_iload hx hb dX0_afterStep_14 (lv_at hl 0 rfl) ?_
  refine n_if_ne (tgt := 46) hx hb dX0_afterStep_16 (by decide) (by omega) (fun c16 => ?_) (fun c16 => ?_)
  · refine lv_iload hx hb dX0_afterStep_46 (lv_at hl 0 rfl) ?_
    refine lv_iconst (v := nI 1) hx hb dX0_afterStep_48 (by decide) ?_
    refine n_ic_ne (tgt := 79) hx hb dX0_afterStep_49 (by decide) (by omega) (by decide) (fun c49 => ?_) (fun c49 => ?_)
    · refine lv_iload hx hb dX0_afterStep_79 (lv_at hl 0 rfl) ?_
      refine lv_iload hx hb dX0_afterStep_81 (lv_at hl 5 rfl) ?_
      refine lv_iconst (v := nI 2) hx hb dX0_afterStep_83 (by decide) ?_
      refine n_ic_ne (tgt := 91) hx hb dX0_afterStep_84 (by decide) (by omega) (by decide) (fun c84 => ?_) (fun c84 => ?_)
      · refine lv_iconst (v := nI 3) hx hb dX0_afterStep_91 (by decide) ?_
        refine n_ic_ne (tgt := 99) hx hb dX0_afterStep_92 (by decide) (by omega) (by decide) (fun c92 => ?_) (fun c92 => ?_)
        · refine lv_iconst (v := nI 0) hx hb dX0_afterStep_99 (by decide) ?_
          refine lv_istore (lv' := [(7, .int (nI 0)), (6, .int (nI (phC C p))), (5, .int (nI (spC C p))), (0, .long (lN C)), (2, .int (nI p)), (3, .int (nI k)), (4, .int (nI g))]) hx hb dX0_afterStep_100 hl (by decide) rfl (fun ls hl => ?_)
          refine lv_iload hx hb dX0_afterStep_102 (lv_at hl 0 rfl) ?_
          refine n_if_eq (tgt := 125) hx hb dX0_afterStep_104 (by decide) (by decide) (fun _ => ?_) (fun q => absurd q (by decide))
          refine lv_iload hx hb dX0_afterStep_125 (lv_at hl 0 rfl) ?_
          refine n_if_eq (tgt := 134) hx hb dX0_afterStep_127 (by decide) (by decide) (fun _ => ?_) (fun q => absurd q (by decide))
          refine lv_lload_n hx hb dX0_afterStep_134 rfl (lv_at hl 3 rfl) ?_
          refine lv_iload hx hb dX0_afterStep_135 (lv_at hl 2 rfl) ?_
          refine rdS (nL := 10) hx hb hml hown hts hK hP [.long (lN C), .int (nI (spC C p))] [] (c_X0_withDoorClosed l D ca C (spC C p) hC hs) gX0_afterStep_X0_withDoorClosed rfl qX0_withDoorClosed ⟨Nat.le_of_ble_eq_true rfl, Nat.le_of_ble_eq_true rfl⟩ [] rfl rfl hl.1 (Nat.le_of_ble_eq_true rfl) ⟨Nat.le_of_ble_eq_true rfl, Nat.le_of_ble_eq_true rfl⟩ dX0_afterStep_137 ?_
          refine lv_lstore (lv' := [(8, .long (lN (sF C (24 + 3 * (spC C p) + 2) 1 1))), (7, .int (nI 0)), (6, .int (nI (phC C p))), (5, .int (nI (spC C p))), (0, .long (lN C)), (2, .int (nI p)), (3, .int (nI k)), (4, .int (nI g))]) hx hb dX0_afterStep_140 hl (by decide) rfl (fun ls hl => ?_)
          refine lv_iload hx hb dX0_afterStep_142 (lv_at hl 2 rfl) ?_
          refine lv_iconst (v := nI 2) hx hb dX0_afterStep_144 (by decide) ?_
          refine n_ic_ne (tgt := 158) hx hb dX0_afterStep_145 (by decide) (by omega) (by decide) (fun c145 => ?_) (fun c145 => ?_)
          · refine lv_lload hx hb dX0_afterStep_158 (lv_at hl 0 rfl) ?_
            refine lv_iload_n hx hb dX0_afterStep_160 rfl (lv_at hl 5 rfl) ?_
            refine lv_iconst (v := nI 1) hx hb dX0_afterStep_161 (by decide) ?_
            refine rdS (nL := 10) hx hb hml hown hts hK hP [.long (lN (sF C (24 + 3 * (spC C p) + 2) 1 1)), .int (nI p), .int (nI 1)] [] (c_X0_withStatus l D ca (sF C (24 + 3 * (spC C p) + 2) 1 1) p 1 (sF_lt (by decide) hC (by omega)) hp (by decide)) gX0_afterStep_X0_withStatus rfl qX0_withStatus ⟨Nat.le_of_ble_eq_true rfl, Nat.le_of_ble_eq_true rfl⟩ [] rfl rfl hl.1 (Nat.le_of_ble_eq_true rfl) ⟨Nat.le_of_ble_eq_true rfl, Nat.le_of_ble_eq_true rfl⟩ dX0_afterStep_162 ?_
            exact rRetL hx hb hr hlocks (congrArg (fun z => Value.long (lN z)) (by first | (exfalso; omega) | simp [stepC, c16, c49, c84, c92, c145])) dX0_afterStep_165
          · refine lv_lload hx hb dX0_afterStep_148 (lv_at hl 0 rfl) ?_
            refine lv_iload_n hx hb dX0_afterStep_150 rfl (lv_at hl 5 rfl) ?_
            refine lv_iconst (v := nI 3) hx hb dX0_afterStep_151 (by decide) ?_
            refine rdS (nL := 10) hx hb hml hown hts hK hP [.long (lN (sF C (24 + 3 * (spC C p) + 2) 1 1)), .int (nI p), .int (nI 3)] [] (c_X0_withPhase l D ca (sF C (24 + 3 * (spC C p) + 2) 1 1) p 3 (sF_lt (by decide) hC (by omega)) hp (by decide)) gX0_afterStep_X0_withPhase rfl qX0_withPhase ⟨Nat.le_of_ble_eq_true rfl, Nat.le_of_ble_eq_true rfl⟩ [] rfl rfl hl.1 (Nat.le_of_ble_eq_true rfl) ⟨Nat.le_of_ble_eq_true rfl, Nat.le_of_ble_eq_true rfl⟩ dX0_afterStep_152 ?_
            refine lv_goto (tgt := 165) hx hb dX0_afterStep_155 (by decide) ?_
            exact rRetL hx hb hr hlocks (congrArg (fun z => Value.long (lN z)) (by first | (exfalso; omega) | simp [stepC, c16, c49, c84, c92, c145])) dX0_afterStep_165
        · refine lv_iconst (v := nI 1) hx hb dX0_afterStep_95 (by decide) ?_
          refine lv_goto (tgt := 100) hx hb dX0_afterStep_96 (by decide) ?_
          refine lv_istore (lv' := [(7, .int (nI 1)), (6, .int (nI (phC C p))), (5, .int (nI (spC C p))), (0, .long (lN C)), (2, .int (nI p)), (3, .int (nI k)), (4, .int (nI g))]) hx hb dX0_afterStep_100 hl (by decide) rfl (fun ls hl => ?_)
          refine lv_iload hx hb dX0_afterStep_102 (lv_at hl 0 rfl) ?_
          refine n_if_eq (tgt := 125) hx hb dX0_afterStep_104 (by decide) (by decide) (fun q => absurd q (by decide)) (fun _ => ?_)
          refine lv_lload_n hx hb dX0_afterStep_107 rfl (lv_at hl 3 rfl) ?_
          refine lv_iload hx hb dX0_afterStep_108 (lv_at hl 2 rfl) ?_
          refine rdS (nL := 10) hx hb hml hown hts hK hP [.long (lN C), .int (nI (spC C p))] [] (c_X0_ownerIn l D ca C (spC C p) hC hs) gX0_afterStep_X0_ownerIn rfl qX0_ownerIn ⟨Nat.le_of_ble_eq_true rfl, Nat.le_of_ble_eq_true rfl⟩ [] rfl rfl hl.1 (Nat.le_of_ble_eq_true rfl) ⟨Nat.le_of_ble_eq_true rfl, Nat.le_of_ble_eq_true rfl⟩ dX0_afterStep_110 ?_
          refine lv_iload_n hx hb dX0_afterStep_113 rfl (lv_at hl 4 rfl) ?_
          refine lv_icmp_eq (tgt := 125) hx hb dX0_afterStep_114 (by decide) (fun c114 => ?_) (fun c114 => ?_)
          · rw [ownV_eq hp] at c114
            refine lv_iload hx hb dX0_afterStep_125 (lv_at hl 0 rfl) ?_
            refine n_if_eq (tgt := 134) hx hb dX0_afterStep_127 (by decide) (by decide) (fun q => absurd q (by decide)) (fun _ => ?_)
            refine lv_lload_n hx hb dX0_afterStep_130 rfl (lv_at hl 3 rfl) ?_
            refine lv_goto (tgt := 140) hx hb dX0_afterStep_131 (by decide) ?_
            refine lv_lstore (lv' := [(8, .long (lN C)), (7, .int (nI 1)), (6, .int (nI (phC C p))), (5, .int (nI (spC C p))), (0, .long (lN C)), (2, .int (nI p)), (3, .int (nI k)), (4, .int (nI g))]) hx hb dX0_afterStep_140 hl (by decide) rfl (fun ls hl => ?_)
            refine lv_iload hx hb dX0_afterStep_142 (lv_at hl 2 rfl) ?_
            refine lv_iconst (v := nI 2) hx hb dX0_afterStep_144 (by decide) ?_
            refine n_ic_ne (tgt := 158) hx hb dX0_afterStep_145 (by decide) (by omega) (by decide) (fun c145 => ?_) (fun c145 => ?_)
            · refine lv_lload hx hb dX0_afterStep_158 (lv_at hl 0 rfl) ?_
              refine lv_iload_n hx hb dX0_afterStep_160 rfl (lv_at hl 5 rfl) ?_
              refine lv_iconst (v := nI 1) hx hb dX0_afterStep_161 (by decide) ?_
              refine rdS (nL := 10) hx hb hml hown hts hK hP [.long (lN C), .int (nI p), .int (nI 1)] [] (c_X0_withStatus l D ca C p 1 hC hp (by decide)) gX0_afterStep_X0_withStatus rfl qX0_withStatus ⟨Nat.le_of_ble_eq_true rfl, Nat.le_of_ble_eq_true rfl⟩ [] rfl rfl hl.1 (Nat.le_of_ble_eq_true rfl) ⟨Nat.le_of_ble_eq_true rfl, Nat.le_of_ble_eq_true rfl⟩ dX0_afterStep_162 ?_
              exact rRetL hx hb hr hlocks (congrArg (fun z => Value.long (lN z)) (by first | (exfalso; omega) | simp [stepC, c16, c49, c84, c92, c114, c145])) dX0_afterStep_165
            · refine lv_lload hx hb dX0_afterStep_148 (lv_at hl 0 rfl) ?_
              refine lv_iload_n hx hb dX0_afterStep_150 rfl (lv_at hl 5 rfl) ?_
              refine lv_iconst (v := nI 3) hx hb dX0_afterStep_151 (by decide) ?_
              refine rdS (nL := 10) hx hb hml hown hts hK hP [.long (lN C), .int (nI p), .int (nI 3)] [] (c_X0_withPhase l D ca C p 3 hC hp (by decide)) gX0_afterStep_X0_withPhase rfl qX0_withPhase ⟨Nat.le_of_ble_eq_true rfl, Nat.le_of_ble_eq_true rfl⟩ [] rfl rfl hl.1 (Nat.le_of_ble_eq_true rfl) ⟨Nat.le_of_ble_eq_true rfl, Nat.le_of_ble_eq_true rfl⟩ dX0_afterStep_152 ?_
              refine lv_goto (tgt := 165) hx hb dX0_afterStep_155 (by decide) ?_
              exact rRetL hx hb hr hlocks (congrArg (fun z => Value.long (lN z)) (by first | (exfalso; omega) | simp [stepC, c16, c49, c84, c92, c114, c145])) dX0_afterStep_165
          · rw [ownV_eq hp] at c114
            refine lv_lload_n hx hb dX0_afterStep_117 rfl (lv_at hl 3 rfl) ?_
            refine lv_iload_n hx hb dX0_afterStep_118 rfl (lv_at hl 4 rfl) ?_
            refine lv_iload_n hx hb dX0_afterStep_119 rfl (lv_at hl 5 rfl) ?_
            refine lv_iconst (v := nI 1) hx hb dX0_afterStep_120 (by decide) ?_
            refine rdS (nL := 10) hx hb hml hown hts hK hP [.long (lN C), .int (nI p), .int (nI k), .int (nI 1)] [] (c_X0_moved l D ca C p k 1 hC hp (by omega) (by omega)) gX0_afterStep_X0_moved rfl qX0_moved ⟨Nat.le_of_ble_eq_true rfl, Nat.le_of_ble_eq_true rfl⟩ [] rfl rfl hl.1 (Nat.le_of_ble_eq_true rfl) ⟨Nat.le_of_ble_eq_true rfl, Nat.le_of_ble_eq_true rfl⟩ dX0_afterStep_121 ?_
            exact rRetL hx hb hr hlocks (congrArg (fun z => Value.long (lN z)) (by first | (exfalso; omega) | simp [stepC, c16, c49, c84, c92, c114])) dX0_afterStep_124
      · refine lv_iconst (v := nI 2) hx hb dX0_afterStep_87 (by decide) ?_
        refine lv_goto (tgt := 92) hx hb dX0_afterStep_88 (by decide) ?_
        refine n_ic_ne (tgt := 99) hx hb dX0_afterStep_92 (by decide) (by omega) (by decide) (fun c92 => ?_) (fun c92 => ?_)
        · refine lv_iconst (v := nI 0) hx hb dX0_afterStep_99 (by decide) ?_
          refine lv_istore (lv' := [(7, .int (nI 0)), (6, .int (nI (phC C p))), (5, .int (nI (spC C p))), (0, .long (lN C)), (2, .int (nI p)), (3, .int (nI k)), (4, .int (nI g))]) hx hb dX0_afterStep_100 hl (by decide) rfl (fun ls hl => ?_)
          refine lv_iload hx hb dX0_afterStep_102 (lv_at hl 0 rfl) ?_
          refine n_if_eq (tgt := 125) hx hb dX0_afterStep_104 (by decide) (by decide) (fun _ => ?_) (fun q => absurd q (by decide))
          refine lv_iload hx hb dX0_afterStep_125 (lv_at hl 0 rfl) ?_
          refine n_if_eq (tgt := 134) hx hb dX0_afterStep_127 (by decide) (by decide) (fun _ => ?_) (fun q => absurd q (by decide))
          refine lv_lload_n hx hb dX0_afterStep_134 rfl (lv_at hl 3 rfl) ?_
          refine lv_iload hx hb dX0_afterStep_135 (lv_at hl 2 rfl) ?_
          refine rdS (nL := 10) hx hb hml hown hts hK hP [.long (lN C), .int (nI (spC C p))] [] (c_X0_withDoorClosed l D ca C (spC C p) hC hs) gX0_afterStep_X0_withDoorClosed rfl qX0_withDoorClosed ⟨Nat.le_of_ble_eq_true rfl, Nat.le_of_ble_eq_true rfl⟩ [] rfl rfl hl.1 (Nat.le_of_ble_eq_true rfl) ⟨Nat.le_of_ble_eq_true rfl, Nat.le_of_ble_eq_true rfl⟩ dX0_afterStep_137 ?_
          refine lv_lstore (lv' := [(8, .long (lN (sF C (24 + 3 * (spC C p) + 2) 1 1))), (7, .int (nI 0)), (6, .int (nI (phC C p))), (5, .int (nI (spC C p))), (0, .long (lN C)), (2, .int (nI p)), (3, .int (nI k)), (4, .int (nI g))]) hx hb dX0_afterStep_140 hl (by decide) rfl (fun ls hl => ?_)
          refine lv_iload hx hb dX0_afterStep_142 (lv_at hl 2 rfl) ?_
          refine lv_iconst (v := nI 2) hx hb dX0_afterStep_144 (by decide) ?_
          refine n_ic_ne (tgt := 158) hx hb dX0_afterStep_145 (by decide) (by omega) (by decide) (fun c145 => ?_) (fun c145 => ?_)
          · refine lv_lload hx hb dX0_afterStep_158 (lv_at hl 0 rfl) ?_
            refine lv_iload_n hx hb dX0_afterStep_160 rfl (lv_at hl 5 rfl) ?_
            refine lv_iconst (v := nI 1) hx hb dX0_afterStep_161 (by decide) ?_
            refine rdS (nL := 10) hx hb hml hown hts hK hP [.long (lN (sF C (24 + 3 * (spC C p) + 2) 1 1)), .int (nI p), .int (nI 1)] [] (c_X0_withStatus l D ca (sF C (24 + 3 * (spC C p) + 2) 1 1) p 1 (sF_lt (by decide) hC (by omega)) hp (by decide)) gX0_afterStep_X0_withStatus rfl qX0_withStatus ⟨Nat.le_of_ble_eq_true rfl, Nat.le_of_ble_eq_true rfl⟩ [] rfl rfl hl.1 (Nat.le_of_ble_eq_true rfl) ⟨Nat.le_of_ble_eq_true rfl, Nat.le_of_ble_eq_true rfl⟩ dX0_afterStep_162 ?_
            exact rRetL hx hb hr hlocks (congrArg (fun z => Value.long (lN z)) (by first | (exfalso; omega) | simp [stepC, c16, c49, c84, c92, c145])) dX0_afterStep_165
          · refine lv_lload hx hb dX0_afterStep_148 (lv_at hl 0 rfl) ?_
            refine lv_iload_n hx hb dX0_afterStep_150 rfl (lv_at hl 5 rfl) ?_
            refine lv_iconst (v := nI 3) hx hb dX0_afterStep_151 (by decide) ?_
            refine rdS (nL := 10) hx hb hml hown hts hK hP [.long (lN (sF C (24 + 3 * (spC C p) + 2) 1 1)), .int (nI p), .int (nI 3)] [] (c_X0_withPhase l D ca (sF C (24 + 3 * (spC C p) + 2) 1 1) p 3 (sF_lt (by decide) hC (by omega)) hp (by decide)) gX0_afterStep_X0_withPhase rfl qX0_withPhase ⟨Nat.le_of_ble_eq_true rfl, Nat.le_of_ble_eq_true rfl⟩ [] rfl rfl hl.1 (Nat.le_of_ble_eq_true rfl) ⟨Nat.le_of_ble_eq_true rfl, Nat.le_of_ble_eq_true rfl⟩ dX0_afterStep_152 ?_
            refine lv_goto (tgt := 165) hx hb dX0_afterStep_155 (by decide) ?_
            exact rRetL hx hb hr hlocks (congrArg (fun z => Value.long (lN z)) (by first | (exfalso; omega) | simp [stepC, c16, c49, c84, c92, c145])) dX0_afterStep_165
        · refine lv_iconst (v := nI 1) hx hb dX0_afterStep_95 (by decide) ?_
          refine lv_goto (tgt := 100) hx hb dX0_afterStep_96 (by decide) ?_
          refine lv_istore (lv' := [(7, .int (nI 1)), (6, .int (nI (phC C p))), (5, .int (nI (spC C p))), (0, .long (lN C)), (2, .int (nI p)), (3, .int (nI k)), (4, .int (nI g))]) hx hb dX0_afterStep_100 hl (by decide) rfl (fun ls hl => ?_)
          refine lv_iload hx hb dX0_afterStep_102 (lv_at hl 0 rfl) ?_
          refine n_if_eq (tgt := 125) hx hb dX0_afterStep_104 (by decide) (by decide) (fun q => absurd q (by decide)) (fun _ => ?_)
          refine lv_lload_n hx hb dX0_afterStep_107 rfl (lv_at hl 3 rfl) ?_
          refine lv_iload hx hb dX0_afterStep_108 (lv_at hl 2 rfl) ?_
          refine rdS (nL := 10) hx hb hml hown hts hK hP [.long (lN C), .int (nI (spC C p))] [] (c_X0_ownerIn l D ca C (spC C p) hC hs) gX0_afterStep_X0_ownerIn rfl qX0_ownerIn ⟨Nat.le_of_ble_eq_true rfl, Nat.le_of_ble_eq_true rfl⟩ [] rfl rfl hl.1 (Nat.le_of_ble_eq_true rfl) ⟨Nat.le_of_ble_eq_true rfl, Nat.le_of_ble_eq_true rfl⟩ dX0_afterStep_110 ?_
          refine lv_iload_n hx hb dX0_afterStep_113 rfl (lv_at hl 4 rfl) ?_
          refine lv_icmp_eq (tgt := 125) hx hb dX0_afterStep_114 (by decide) (fun c114 => ?_) (fun c114 => ?_)
          · rw [ownV_eq hp] at c114
            refine lv_iload hx hb dX0_afterStep_125 (lv_at hl 0 rfl) ?_
            refine n_if_eq (tgt := 134) hx hb dX0_afterStep_127 (by decide) (by decide) (fun q => absurd q (by decide)) (fun _ => ?_)
            refine lv_lload_n hx hb dX0_afterStep_130 rfl (lv_at hl 3 rfl) ?_
            refine lv_goto (tgt := 140) hx hb dX0_afterStep_131 (by decide) ?_
            refine lv_lstore (lv' := [(8, .long (lN C)), (7, .int (nI 1)), (6, .int (nI (phC C p))), (5, .int (nI (spC C p))), (0, .long (lN C)), (2, .int (nI p)), (3, .int (nI k)), (4, .int (nI g))]) hx hb dX0_afterStep_140 hl (by decide) rfl (fun ls hl => ?_)
            refine lv_iload hx hb dX0_afterStep_142 (lv_at hl 2 rfl) ?_
            refine lv_iconst (v := nI 2) hx hb dX0_afterStep_144 (by decide) ?_
            refine n_ic_ne (tgt := 158) hx hb dX0_afterStep_145 (by decide) (by omega) (by decide) (fun c145 => ?_) (fun c145 => ?_)
            · refine lv_lload hx hb dX0_afterStep_158 (lv_at hl 0 rfl) ?_
              refine lv_iload_n hx hb dX0_afterStep_160 rfl (lv_at hl 5 rfl) ?_
              refine lv_iconst (v := nI 1) hx hb dX0_afterStep_161 (by decide) ?_
              refine rdS (nL := 10) hx hb hml hown hts hK hP [.long (lN C), .int (nI p), .int (nI 1)] [] (c_X0_withStatus l D ca C p 1 hC hp (by decide)) gX0_afterStep_X0_withStatus rfl qX0_withStatus ⟨Nat.le_of_ble_eq_true rfl, Nat.le_of_ble_eq_true rfl⟩ [] rfl rfl hl.1 (Nat.le_of_ble_eq_true rfl) ⟨Nat.le_of_ble_eq_true rfl, Nat.le_of_ble_eq_true rfl⟩ dX0_afterStep_162 ?_
              exact rRetL hx hb hr hlocks (congrArg (fun z => Value.long (lN z)) (by first | (exfalso; omega) | simp [stepC, c16, c49, c84, c92, c114, c145])) dX0_afterStep_165
            · refine lv_lload hx hb dX0_afterStep_148 (lv_at hl 0 rfl) ?_
              refine lv_iload_n hx hb dX0_afterStep_150 rfl (lv_at hl 5 rfl) ?_
              refine lv_iconst (v := nI 3) hx hb dX0_afterStep_151 (by decide) ?_
              refine rdS (nL := 10) hx hb hml hown hts hK hP [.long (lN C), .int (nI p), .int (nI 3)] [] (c_X0_withPhase l D ca C p 3 hC hp (by decide)) gX0_afterStep_X0_withPhase rfl qX0_withPhase ⟨Nat.le_of_ble_eq_true rfl, Nat.le_of_ble_eq_true rfl⟩ [] rfl rfl hl.1 (Nat.le_of_ble_eq_true rfl) ⟨Nat.le_of_ble_eq_true rfl, Nat.le_of_ble_eq_true rfl⟩ dX0_afterStep_152 ?_
              refine lv_goto (tgt := 165) hx hb dX0_afterStep_155 (by decide) ?_
              exact rRetL hx hb hr hlocks (congrArg (fun z => Value.long (lN z)) (by first | (exfalso; omega) | simp [stepC, c16, c49, c84, c92, c114, c145])) dX0_afterStep_165
          · rw [ownV_eq hp] at c114
            refine lv_lload_n hx hb dX0_afterStep_117 rfl (lv_at hl 3 rfl) ?_
            refine lv_iload_n hx hb dX0_afterStep_118 rfl (lv_at hl 4 rfl) ?_
            refine lv_iload_n hx hb dX0_afterStep_119 rfl (lv_at hl 5 rfl) ?_
            refine lv_iconst (v := nI 1) hx hb dX0_afterStep_120 (by decide) ?_
            refine rdS (nL := 10) hx hb hml hown hts hK hP [.long (lN C), .int (nI p), .int (nI k), .int (nI 1)] [] (c_X0_moved l D ca C p k 1 hC hp (by omega) (by omega)) gX0_afterStep_X0_moved rfl qX0_moved ⟨Nat.le_of_ble_eq_true rfl, Nat.le_of_ble_eq_true rfl⟩ [] rfl rfl hl.1 (Nat.le_of_ble_eq_true rfl) ⟨Nat.le_of_ble_eq_true rfl, Nat.le_of_ble_eq_true rfl⟩ dX0_afterStep_121 ?_
            exact rRetL hx hb hr hlocks (congrArg (fun z => Value.long (lN z)) (by first | (exfalso; omega) | simp [stepC, c16, c49, c84, c92, c114])) dX0_afterStep_124
    · refine lv_lload_n hx hb dX0_afterStep_52 rfl (lv_at hl 2 rfl) ?_
      refine lv_iload hx hb dX0_afterStep_53 (lv_at hl 1 rfl) ?_
      refine rdS (nL := 10) hx hb hml hown hts hK hP [.long (lN C), .int (nI (spC C p))] [] (c_X0_doorIn l D ca C (spC C p) hC hs) gX0_afterStep_X0_doorIn rfl qX0_doorIn ⟨Nat.le_of_ble_eq_true rfl, Nat.le_of_ble_eq_true rfl⟩ [] rfl rfl hl.1 (Nat.le_of_ble_eq_true rfl) ⟨Nat.le_of_ble_eq_true rfl, Nat.le_of_ble_eq_true rfl⟩ dX0_afterStep_55 ?_
      refine lv_iconst (v := nI 1) hx hb dX0_afterStep_58 (by decide) ?_
      refine n_ic_ne (tgt := 72) hx hb dX0_afterStep_59 (by decide) (by omega) (by decide) (fun c59 => ?_) (fun c59 => ?_)
      · refine lv_lload_n hx hb dX0_afterStep_72 rfl (lv_at hl 2 rfl) ?_
        refine lv_iload_n hx hb dX0_afterStep_73 rfl (lv_at hl 3 rfl) ?_
        refine lv_iconst (v := nI 2) hx hb dX0_afterStep_74 (by decide) ?_
        refine rdS (nL := 10) hx hb hml hown hts hK hP [.long (lN C), .int (nI p), .int (nI 2)] [] (c_X0_withPhase l D ca C p 2 hC hp (by decide)) gX0_afterStep_X0_withPhase rfl qX0_withPhase ⟨Nat.le_of_ble_eq_true rfl, Nat.le_of_ble_eq_true rfl⟩ [] rfl rfl hl.1 (Nat.le_of_ble_eq_true rfl) ⟨Nat.le_of_ble_eq_true rfl, Nat.le_of_ble_eq_true rfl⟩ dX0_afterStep_75 ?_
        exact rRetL hx hb hr hlocks (congrArg (fun z => Value.long (lN z)) (by first | (exfalso; omega) | simp [stepC, c16, c49, c59])) dX0_afterStep_78
      · refine lv_lload_n hx hb dX0_afterStep_62 rfl (lv_at hl 2 rfl) ?_
        refine lv_iload_n hx hb dX0_afterStep_63 rfl (lv_at hl 3 rfl) ?_
        refine lv_iload_n hx hb dX0_afterStep_64 rfl (lv_at hl 4 rfl) ?_
        refine lv_iconst (v := nI 0) hx hb dX0_afterStep_65 (by decide) ?_
        refine rdS (nL := 10) hx hb hml hown hts hK hP [.long (lN C), .int (nI p), .int (nI k), .int (nI 0)] [] (c_X0_moved l D ca C p k 0 hC hp (by omega) (by omega)) gX0_afterStep_X0_moved rfl qX0_moved ⟨Nat.le_of_ble_eq_true rfl, Nat.le_of_ble_eq_true rfl⟩ [] rfl rfl hl.1 (Nat.le_of_ble_eq_true rfl) ⟨Nat.le_of_ble_eq_true rfl, Nat.le_of_ble_eq_true rfl⟩ dX0_afterStep_66 ?_
        refine lv_goto (tgt := 78) hx hb dX0_afterStep_69 (by decide) ?_
        exact rRetL hx hb hr hlocks (congrArg (fun z => Value.long (lN z)) (by first | (exfalso; omega) | simp [stepC, c16, c49, c59])) dX0_afterStep_78
  · refine lv_lload_n hx hb dX0_afterStep_19 rfl (lv_at hl 2 rfl) ?_
    refine lv_iload hx hb dX0_afterStep_20 (lv_at hl 1 rfl) ?_
    refine lv_iload_n hx hb dX0_afterStep_22 rfl (lv_at hl 3 rfl) ?_
    refine rdS (nL := 10) hx hb hml hown hts hK hP [.long (lN C), .int (nI (spC C p)), .int (nI p)] [] (c_X0_withOwner l D ca C (spC C p) p hC hs hp) gX0_afterStep_X0_withOwner rfl qX0_withOwner ⟨Nat.le_of_ble_eq_true rfl, Nat.le_of_ble_eq_true rfl⟩ [] rfl rfl hl.1 (Nat.le_of_ble_eq_true rfl) ⟨Nat.le_of_ble_eq_true rfl, Nat.le_of_ble_eq_true rfl⟩ dX0_afterStep_23 ?_
    refine lv_lstore (lv' := [(7, .long (lN (sF C (24 + 3 * (spC C p)) 2 (p + 1)))), (6, .int (nI (phC C p))), (5, .int (nI (spC C p))), (0, .long (lN C)), (2, .int (nI p)), (3, .int (nI k)), (4, .int (nI g))]) hx hb dX0_afterStep_26 hl (by decide) rfl (fun ls hl => ?_)
    refine lv_lload hx hb dX0_afterStep_28 (lv_at hl 0 rfl) ?_
    refine lv_iload_n hx hb dX0_afterStep_30 rfl (lv_at hl 4 rfl) ?_
    refine lv_iload hx hb dX0_afterStep_31 (lv_at hl 6 rfl) ?_
    refine lv_iconst (v := nI 1) hx hb dX0_afterStep_33 (by decide) ?_
    refine n_ic_ne (tgt := 41) hx hb dX0_afterStep_34 (by decide) (by omega) (by decide) (fun c34 => ?_) (fun c34 => ?_)
    · refine lv_iconst (v := nI 1) hx hb dX0_afterStep_41 (by decide) ?_
      refine rdS (nL := 10) hx hb hml hown hts hK hP [.long (lN (sF C (24 + 3 * (spC C p)) 2 (p + 1))), .int (nI p), .int (nI 1)] [] (c_X0_withPhase l D ca (sF C (24 + 3 * (spC C p)) 2 (p + 1)) p 1 (sF_lt (by omega) hC (by omega)) hp (by decide)) gX0_afterStep_X0_withPhase rfl qX0_withPhase ⟨Nat.le_of_ble_eq_true rfl, Nat.le_of_ble_eq_true rfl⟩ [] rfl rfl hl.1 (Nat.le_of_ble_eq_true rfl) ⟨Nat.le_of_ble_eq_true rfl, Nat.le_of_ble_eq_true rfl⟩ dX0_afterStep_42 ?_
      exact rRetL hx hb hr hlocks (congrArg (fun z => Value.long (lN z)) (by first | (exfalso; omega) | simp [stepC, c16, c34])) dX0_afterStep_45
    · refine lv_iconst (v := nI 2) hx hb dX0_afterStep_37 (by decide) ?_
      refine lv_goto (tgt := 42) hx hb dX0_afterStep_38 (by decide) ?_
      refine rdS (nL := 10) hx hb hml hown hts hK hP [.long (lN (sF C (24 + 3 * (spC C p)) 2 (p + 1))), .int (nI p), .int (nI 2)] [] (c_X0_withPhase l D ca (sF C (24 + 3 * (spC C p)) 2 (p + 1)) p 2 (sF_lt (by omega) hC (by omega)) hp (by decide)) gX0_afterStep_X0_withPhase rfl qX0_withPhase ⟨Nat.le_of_ble_eq_true rfl, Nat.le_of_ble_eq_true rfl⟩ [] rfl rfl hl.1 (Nat.le_of_ble_eq_true rfl) ⟨Nat.le_of_ble_eq_true rfl, Nat.le_of_ble_eq_true rfl⟩ dX0_afterStep_42 ?_
      exact rRetL hx hb hr hlocks (congrArg (fun z => Value.long (lN z)) (by first | (exfalso; omega) | simp [stepC, c16, c34])) dX0_afterStep_45

/-! ===== counts: six bits each ===== -/
def cnt (n i : Nat) : Nat := n / 2 ^ (6 * i) % 2 ^ 6

set_option maxHeartbeats 4000000 in
set_option maxRecDepth 100000 in
theorem c_X1_countIn (l : Launch) (D : va_G) (ca : Nat → ClassId) (n i : Nat) (hn : n < 2 ^ 60) (hi : i < 10) : RD l D ca yX1_countIn wsX1_countIn 0 0 [] [.long (lN n), .int (nI i)] (.int (nI (cnt n i))) := by
  refine RD.start (cc := cX1_countIn) (maxL := 3) (ret := (some .int)) (by decide) rfl (Nat.le_of_ble_eq_true rfl) ?_
  intro p_ e_ s_ m_ below_ meth_ c_ hx hb hml hr hlocks hown hts hP hK ls hl
  have hown : s_.vm.findClass RX1 = some m_.cls := hown
  have hl : lv_has ls 3 [(0, .long (lN n)), (2, .int (nI i))] := hl
  refine lv_lload_n hx hb dX1_countIn_0 rfl (lv_at hl 0 rfl) ?_
  refine lv_bipush (v := nI 6) hx hb dX1_countIn_1 (by decide) ?_
  refine lv_iload_n hx hb dX1_countIn_3 rfl (lv_at hl 1 rfl) ?_
  refine n_imul hx hb dX1_countIn_4 ?_
  refine n_lushr hx hb (by omega) (by omega) dX1_countIn_5 ?_
  refine n_l2i hx hb dX1_countIn_6 ?_
  refine lv_bipush (v := nI 63) hx hb dX1_countIn_7 (by decide) ?_
  refine n_iand hx hb 6 (by decide) dX1_countIn_9 ?_
  exact rRetI hx hb hr hlocks rfl dX1_countIn_10

set_option maxHeartbeats 4000000 in
set_option maxRecDepth 100000 in
theorem c_X1_withOneMore (l : Launch) (D : va_G) (ca : Nat → ClassId) (n i : Nat) (hi : i < 10) : RD l D ca yX1_withOneMore wsX1_withOneMore 0 0 [] [.long (lN n), .int (nI i)] (.long (lN (n + 2 ^ (6 * i)))) := by
  refine RD.start (cc := cX1_withOneMore) (maxL := 3) (ret := (some .long)) (by decide) rfl (Nat.le_of_ble_eq_true rfl) ?_
  intro p_ e_ s_ m_ below_ meth_ c_ hx hb hml hr hlocks hown hts hP hK ls hl
  have hown : s_.vm.findClass RX1 = some m_.cls := hown
  have hl : lv_has ls 3 [(0, .long (lN n)), (2, .int (nI i))] := hl
  refine lv_lload_n hx hb dX1_withOneMore_0 rfl (lv_at hl 0 rfl) ?_
  refine lv_lconst (v := lN 1) hx hb dX1_withOneMore_1 (by decide) ?_
  refine lv_bipush (v := nI 6) hx hb dX1_withOneMore_2 (by decide) ?_
  refine lv_iload_n hx hb dX1_withOneMore_4 rfl (lv_at hl 1 rfl) ?_
  refine n_imul hx hb dX1_withOneMore_5 ?_
  refine n_lshl hx hb (by omega) dX1_withOneMore_6 ?_
  refine n_ladd hx hb dX1_withOneMore_7 ?_
  exact rRetL hx hb hr hlocks (congrArg (fun z => Value.long (lN z)) (by rw [Nat.one_mul])) dX1_withOneMore_8

