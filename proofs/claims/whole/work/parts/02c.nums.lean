/-! ===== fields of packed numbers ===== -/
def gF (n off w : Nat) : Nat := n / 2 ^ off % 2 ^ w
def sF (n off w v : Nat) : Nat := n / 2 ^ (off + w) * 2 ^ (off + w) + (v * 2 ^ off + n % 2 ^ off)
theorem gF_lt (n off w : Nat) : gF n off w < 2 ^ w := Nat.mod_lt _ (Nat.pow_pos (by decide))
theorem gF_bit (n off w j : Nat) : (gF n off w).testBit j = (decide (j < w) && n.testBit (off + j)) := by
  unfold gF
  rw [Nat.testBit_mod_two_pow, Nat.testBit_div_two_pow, Nat.add_comm]
theorem sF_bit {n off w v : Nat} (hv : v < 2 ^ w) (j : Nat) : (sF n off w v).testBit j = if j < off then n.testBit j else if j < off + w then v.testBit (j - off) else n.testBit j := by
  unfold sF
  have h1 : n % 2 ^ off < 2 ^ off := Nat.mod_lt _ (Nat.pow_pos (by decide))
  have h2 : v * 2 ^ off + n % 2 ^ off < 2 ^ (off + w) := by
    rw [Nat.pow_add]
    have h3 : (v + 1) * 2 ^ off ≤ 2 ^ w * 2 ^ off := Nat.mul_le_mul_right _ hv
    rw [Nat.add_mul, Nat.one_mul] at h3
    rw [Nat.mul_comm (2 ^ off)]
    omega
  rw [Nat.mul_comm (n / 2 ^ (off + w)), Nat.testBit_two_pow_mul_add _ h2, Nat.mul_comm v, Nat.testBit_two_pow_mul_add _ h1]
  by_cases c1 : j < off
  · have c2 : j < off + w := by omega
    simp only [c1, c2, if_true]
    rw [Nat.testBit_mod_two_pow]
    simp [c1]
  · by_cases c2 : j < off + w
    · simp only [c1, c2, if_true, if_false]
    · simp only [c1, c2, if_false]
      rw [Nat.testBit_div_two_pow]
      congr 1
      omega
theorem sF_lt {n off w v k : Nat} (hv : v < 2 ^ w) (hn : n < 2 ^ k) (hk : off + w ≤ k) : sF n off w v < 2 ^ k := by
  apply Nat.lt_pow_two_of_testBit
  intro j hj
  rw [sF_bit hv, if_neg (by omega), if_neg (by omega)]
  exact Nat.testBit_lt_two_pow (Nat.lt_of_lt_of_le hn (Nat.pow_le_pow_right (by decide) hj))
theorem gF_sF_same {n off w v : Nat} (hv : v < 2 ^ w) : gF (sF n off w v) off w = v := by
  apply Nat.eq_of_testBit_eq
  intro j
  rw [gF_bit, sF_bit hv]
  by_cases c : j < w
  · rw [if_neg (by omega), if_pos (by omega)]
    simp [c]
  · simp only [c, decide_false, Bool.false_and]
    rw [Nat.testBit_lt_two_pow (Nat.lt_of_lt_of_le hv (Nat.pow_le_pow_right (by decide) (by omega)))]
theorem gF_sF_other {n off w v o2 w2 : Nat} (hv : v < 2 ^ w) (h : o2 + w2 ≤ off ∨ off + w ≤ o2) : gF (sF n off w v) o2 w2 = gF n o2 w2 := by
  apply Nat.eq_of_testBit_eq
  intro j
  rw [gF_bit, gF_bit, sF_bit hv]
  by_cases c : j < w2
  · rcases h with h | h
    · rw [if_pos (by omega)]
    · rw [if_neg (by omega), if_neg (by omega)]
  · simp [c]
/-- a part of a field -/
theorem gF_gF {n off w o2 w2 : Nat} (h : o2 + w2 ≤ w) : gF (gF n off w) o2 w2 = gF n (off + o2) w2 := by
  apply Nat.eq_of_testBit_eq
  intro j
  rw [gF_bit, gF_bit, gF_bit]
  by_cases c : j < w2
  · simp only [c, decide_true, Bool.true_and]
    rw [show off + (o2 + j) = off + o2 + j by omega]
    simp [show o2 + j < w by omega]
  · simp [c]
theorem sF_sF {n off w v o2 w2 v2 : Nat} (hv : v < 2 ^ w) (hv2 : v2 < 2 ^ w2) (h : o2 + w2 ≤ w) : sF (sF n off w v) (off + o2) w2 v2 = sF n off w (sF v o2 w2 v2) := by
  apply Nat.eq_of_testBit_eq
  intro j
  rw [sF_bit hv2, sF_bit hv, sF_bit (sF_lt hv2 hv h), sF_bit hv2]
  by_cases c1 : j < off
  · rw [if_pos (by omega), if_pos c1, if_pos c1]
  · by_cases c2 : j < off + o2
    · rw [if_pos c2, if_neg c1, if_pos (by omega), if_neg c1, if_pos (by omega), if_pos (by omega)]
    · by_cases c3 : j < off + o2 + w2
      · rw [if_neg c2, if_pos c3, if_neg c1, if_pos (by omega), if_neg (by omega), if_pos (by omega)]
        congr 1
        omega
      · rw [if_neg c2, if_neg c3, if_neg c1]
        by_cases c4 : j < off + w
        · rw [if_pos c4, if_neg c1, if_pos c4, if_neg (by omega), if_neg (by omega)]
        · rw [if_neg c4, if_neg c1, if_neg c4]
/-! ===== the machine's shifts and masks on nI, lN ===== -/
theorem nI_bv (n : Nat) : (nI n).toBitVec = BitVec.ofNat 32 n := rfl
theorem nI_inj32 {a b : Int32} (h : a.toBitVec = b.toBitVec) : a = b := Int32.toBitVec_inj.mp h
theorem s_l32 : ∀ n, n < 32 → ((nI n &&& 31).toBitVec.smod 32).toNat = n := by decide +kernel
theorem s_m32 : ∀ n, n < 32 → (nI n &&& 31).toBitVec.smod 32 = BitVec.ofNat 32 n := by decide +kernel
theorem shlI (n : Nat) {k : Nat} (hk : k < 32) : nI n <<< (nI k &&& 31) = nI (n * 2 ^ k) := by
  apply nI_inj32
  rw [Int32.toBitVec_shiftLeft, nI_bv, s_m32 k hk, nI_bv]
  apply BitVec.eq_of_toNat_eq
  rw [BitVec.shiftLeft_eq', BitVec.toNat_shiftLeft, BitVec.toNat_ofNat, BitVec.toNat_ofNat, BitVec.toNat_ofNat, Nat.shiftLeft_eq, Nat.mod_eq_of_lt (show k < 2 ^ 32 by omega), Nat.mod_mul_mod]
theorem shrI {n k : Nat} (hn : n < 2 ^ 31) (hk : k < 32) : nI n >>> (nI k &&& 31) = nI (n / 2 ^ k) := pk_shrN hn _ k (s_l32 k hk)
theorem andI (n w : Nat) : nI n &&& nI (2 ^ w - 1) = nI (n % 2 ^ w) := fa_mask n w
/-- a field of an int replaced, as the machine does it -/
theorem setI {n off w v : Nat} (hv : v < 2 ^ w) (ho : off + w ≤ 32) : (nI n &&& (nI ((2 ^ w - 1) * 2 ^ off) ^^^ (-1))) ||| nI (v * 2 ^ off) = nI (sF n off w v) := by
  apply nI_inj32
  apply BitVec.eq_of_getLsbD_eq
  intro j hj
  rw [Int32.toBitVec_or, Int32.toBitVec_and, Int32.toBitVec_xor, nI_bv, nI_bv, nI_bv, nI_bv]
  rw [show ((-1 : Int32).toBitVec) = BitVec.allOnes 32 from rfl]
  simp only [BitVec.getLsbD_or, BitVec.getLsbD_and, BitVec.getLsbD_xor, BitVec.getLsbD_ofNat, BitVec.getLsbD_allOnes, hj, decide_true, Bool.true_and]
  rw [sF_bit hv, Nat.testBit_mul_two_pow, Nat.testBit_mul_two_pow, Nat.testBit_two_pow_sub_one]
  by_cases c1 : j < off
  · simp [c1, show ¬ off ≤ j by omega]
  · by_cases c2 : j < off + w
    · simp [c1, c2, show off ≤ j by omega, show j - off < w by omega]
    · have c3 : v.testBit (j - off) = false := Nat.testBit_lt_two_pow (Nat.lt_of_lt_of_le hv (Nat.pow_le_pow_right (by decide) (by omega)))
      simp [c1, c2, c3, show off ≤ j by omega, show ¬ j - off < w by omega]
theorem setL {n off w v : Nat} (hv : v < 2 ^ w) (ho : off + w ≤ 64) : (lN n &&& (lN ((2 ^ w - 1) * 2 ^ off) ^^^ (-1))) ||| lN (v * 2 ^ off) = lN (sF n off w v) := by
  apply wb_inj
  apply BitVec.eq_of_getLsbD_eq
  intro j hj
  rw [Int64.toBitVec_or, Int64.toBitVec_and, Int64.toBitVec_xor, wb_tb, wb_tb, wb_tb, wb_tb]
  rw [show ((-1 : Int64).toBitVec) = BitVec.allOnes 64 from rfl]
  simp only [BitVec.getLsbD_or, BitVec.getLsbD_and, BitVec.getLsbD_xor, BitVec.getLsbD_ofNat, BitVec.getLsbD_allOnes, hj, decide_true, Bool.true_and]
  rw [sF_bit hv, Nat.testBit_mul_two_pow, Nat.testBit_mul_two_pow, Nat.testBit_two_pow_sub_one]
  by_cases c1 : j < off
  · simp [c1, show ¬ off ≤ j by omega]
  · by_cases c2 : j < off + w
    · simp [c1, c2, show off ≤ j by omega, show j - off < w by omega]
    · have c3 : v.testBit (j - off) = false := Nat.testBit_lt_two_pow (Nat.lt_of_lt_of_le hv (Nat.pow_le_pow_right (by decide) (by omega)))
      simp [c1, c2, c3, show off ≤ j by omega, show ¬ j - off < w by omega]
/-- one bit set -/
theorem orI {n k : Nat} (hk : k < 32) : nI n ||| nI (2 ^ k) = nI (sF n k 1 1) := by
  apply nI_inj32
  apply BitVec.eq_of_getLsbD_eq
  intro j hj
  rw [Int32.toBitVec_or, nI_bv, nI_bv, nI_bv]
  simp only [BitVec.getLsbD_or, BitVec.getLsbD_ofNat, hj, decide_true, Bool.true_and]
  rw [sF_bit (by decide), Nat.testBit_two_pow]
  by_cases c1 : j < k
  · simp [c1, show ¬ k = j by omega]
  · by_cases c2 : j < k + 1
    · have c3 : j = k := by omega
      subst c3
      simp
    · simp [c1, c2, show ¬ k = j by omega]
theorem orL {n k : Nat} (hk : k < 64) : lN n ||| lN (2 ^ k) = lN (sF n k 1 1) := by
  apply wb_inj
  apply BitVec.eq_of_getLsbD_eq
  intro j hj
  rw [Int64.toBitVec_or, wb_tb, wb_tb, wb_tb]
  simp only [BitVec.getLsbD_or, BitVec.getLsbD_ofNat, hj, decide_true, Bool.true_and]
  rw [sF_bit (by decide), Nat.testBit_two_pow]
  by_cases c1 : j < k
  · simp [c1, show ¬ k = j by omega]
  · by_cases c2 : j < k + 1
    · have c3 : j = k := by omega
      subst c3
      simp
    · simp [c1, c2, show ¬ k = j by omega]
/-! ===== instruction rows on numbers ===== -/
section NROWS
variable {p : Program} {l : Launch} {e : Env} {R : Room} {s : State} {m : MethodId} {args : Array Value} {below : List Frame} {meth : Method} {c : Code} {H : Heap} {locs : List Loc} {cells slots : Nat} {Q : State → Prop}
variable {cc : ByteArray} {pc : Nat} {ls : Array Slot} {rest : List Value} {a b : Nat}
theorem n_iadd (hx : p.tables.exec = Jvm.exec) (hb : c.code = cc) (hdg : decode cc pc = .ok (.iadd, 1)) (k : W p l e R s m args below meth c H locs cells slots Q (F0 m (pc + 1) ls (.int (nI (a + b)) :: rest))) : W p l e R s m args below meth c H locs cells slots Q (F0 m pc ls (.int (nI b) :: .int (nI a) :: rest)) := lv_iadd hx hb hdg (by rw [nI_add]; exact k)
theorem n_isub (hx : p.tables.exec = Jvm.exec) (hb : c.code = cc) (h : b ≤ a) (hdg : decode cc pc = .ok (.isub, 1)) (k : W p l e R s m args below meth c H locs cells slots Q (F0 m (pc + 1) ls (.int (nI (a - b)) :: rest))) : W p l e R s m args below meth c H locs cells slots Q (F0 m pc ls (.int (nI b) :: .int (nI a) :: rest)) := lv_isub hx hb hdg (by rw [pk_sub h]; exact k)
theorem n_imul (hx : p.tables.exec = Jvm.exec) (hb : c.code = cc) (hdg : decode cc pc = .ok (.imul, 1)) (k : W p l e R s m args below meth c H locs cells slots Q (F0 m (pc + 1) ls (.int (nI (a * b)) :: rest))) : W p l e R s m args below meth c H locs cells slots Q (F0 m pc ls (.int (nI b) :: .int (nI a) :: rest)) := lv_imul hx hb hdg (by rw [pk_mul]; exact k)
theorem n_iand (hx : p.tables.exec = Jvm.exec) (hb : c.code = cc) (w : Nat) (hw : b = 2 ^ w - 1) (hdg : decode cc pc = .ok (.iand, 1)) (k : W p l e R s m args below meth c H locs cells slots Q (F0 m (pc + 1) ls (.int (nI (a % 2 ^ w)) :: rest))) : W p l e R s m args below meth c H locs cells slots Q (F0 m pc ls (.int (nI b) :: .int (nI a) :: rest)) := lv_iand hx hb hdg (by subst hw; rw [andI]; exact k)
theorem n_ishl (hx : p.tables.exec = Jvm.exec) (hb : c.code = cc) (h : b < 32) (hdg : decode cc pc = .ok (.ishl, 1)) (k : W p l e R s m args below meth c H locs cells slots Q (F0 m (pc + 1) ls (.int (nI (a * 2 ^ b)) :: rest))) : W p l e R s m args below meth c H locs cells slots Q (F0 m pc ls (.int (nI b) :: .int (nI a) :: rest)) := lv_ishl hx hb hdg (by rw [shlI a h]; exact k)
theorem n_ishr (hx : p.tables.exec = Jvm.exec) (hb : c.code = cc) (ha : a < 2 ^ 31) (h : b < 32) (hdg : decode cc pc = .ok (.ishr, 1)) (k : W p l e R s m args below meth c H locs cells slots Q (F0 m (pc + 1) ls (.int (nI (a / 2 ^ b)) :: rest))) : W p l e R s m args below meth c H locs cells slots Q (F0 m pc ls (.int (nI b) :: .int (nI a) :: rest)) := lv_ishr hx hb hdg (by rw [shrI ha h]; exact k)
theorem n_idiv (hx : p.tables.exec = Jvm.exec) (hb : c.code = cc) (ha : a < 2 ^ 31) (h0 : 0 < b) (h : b < 2 ^ 31) (hdg : decode cc pc = .ok (.idiv, 1)) (k : W p l e R s m args below meth c H locs cells slots Q (F0 m (pc + 1) ls (.int (nI (a / b)) :: rest))) : W p l e R s m args below meth c H locs cells slots Q (F0 m pc ls (.int (nI b) :: .int (nI a) :: rest)) := lv_idiv hx hb hdg (nI_ne0 h0 h) (by rw [pk_div ha h0 h]; exact k)
theorem n_l2i (hx : p.tables.exec = Jvm.exec) (hb : c.code = cc) (hdg : decode cc pc = .ok (.l2i, 1)) (k : W p l e R s m args below meth c H locs cells slots Q (F0 m (pc + 1) ls (.int (nI a) :: rest))) : W p l e R s m args below meth c H locs cells slots Q (F0 m pc ls (.long (lN a) :: rest)) := lv_l2i hx hb hdg (lN_i a) k
theorem n_i2l (hx : p.tables.exec = Jvm.exec) (hb : c.code = cc) (h : a < 2 ^ 31) (hdg : decode cc pc = .ok (.i2l, 1)) (k : W p l e R s m args below meth c H locs cells slots Q (F0 m (pc + 1) ls (.long (lN a) :: rest))) : W p l e R s m args below meth c H locs cells slots Q (F0 m pc ls (.int (nI a) :: rest)) := lv_i2l hx hb hdg (nI_l h) k
theorem n_lushr (hx : p.tables.exec = Jvm.exec) (hb : c.code = cc) (ha : a < 2 ^ 64) (h : b < 64) (hdg : decode cc pc = .ok (.lushr, 1)) (k : W p l e R s m args below meth c H locs cells slots Q (F0 m (pc + 1) ls (.long (lN (a / 2 ^ b)) :: rest))) : W p l e R s m args below meth c H locs cells slots Q (F0 m pc ls (.int (nI b) :: .long (lN a) :: rest)) := lv_lushr hx hb hdg (wb_shr ha h) k
theorem n_lshl (hx : p.tables.exec = Jvm.exec) (hb : c.code = cc) (h : b < 64) (hdg : decode cc pc = .ok (.lshl, 1)) (k : W p l e R s m args below meth c H locs cells slots Q (F0 m (pc + 1) ls (.long (lN (a * 2 ^ b)) :: rest))) : W p l e R s m args below meth c H locs cells slots Q (F0 m pc ls (.int (nI b) :: .long (lN a) :: rest)) := lv_lshl hx hb hdg (wb_shl a h) k
theorem n_ladd (hx : p.tables.exec = Jvm.exec) (hb : c.code = cc) (hdg : decode cc pc = .ok (.ladd, 1)) (k : W p l e R s m args below meth c H locs cells slots Q (F0 m (pc + 1) ls (.long (lN (a + b)) :: rest))) : W p l e R s m args below meth c H locs cells slots Q (F0 m pc ls (.long (lN b) :: .long (lN a) :: rest)) := lv_ladd hx hb hdg (by rw [lN_add]; exact k)
variable {off : Int} {tgt : Nat}
theorem n_ic_eq (hx : p.tables.exec = Jvm.exec) (hb : c.code = cc) (hdg : decode cc pc = .ok (.if_icmp .eq off, 3)) (ht : (pc : Int) + off = (tgt : Int)) (ha : a < 2 ^ 31) (hb1 : b < 2 ^ 31) (kt : a = b → W p l e R s m args below meth c H locs cells slots Q (F0 m tgt ls rest)) (kf : a ≠ b → W p l e R s m args below meth c H locs cells slots Q (F0 m (pc + 3) ls rest)) : W p l e R s m args below meth c H locs cells slots Q (F0 m pc ls (.int (nI b) :: .int (nI a) :: rest)) := lv_icmp_eq hx hb hdg ht (fun h => kt ((nI_eq ha hb1).mp h)) (fun h => kf (fun q => h (by rw [q])))
theorem n_ic_ne (hx : p.tables.exec = Jvm.exec) (hb : c.code = cc) (hdg : decode cc pc = .ok (.if_icmp .ne off, 3)) (ht : (pc : Int) + off = (tgt : Int)) (ha : a < 2 ^ 31) (hb1 : b < 2 ^ 31) (kt : a ≠ b → W p l e R s m args below meth c H locs cells slots Q (F0 m tgt ls rest)) (kf : a = b → W p l e R s m args below meth c H locs cells slots Q (F0 m (pc + 3) ls rest)) : W p l e R s m args below meth c H locs cells slots Q (F0 m pc ls (.int (nI b) :: .int (nI a) :: rest)) := lv_icmp_ne hx hb hdg ht (fun h => kt (fun q => h (by rw [q]))) (fun h => kf ((nI_eq ha hb1).mp h))
theorem n_ic_lt (hx : p.tables.exec = Jvm.exec) (hb : c.code = cc) (hdg : decode cc pc = .ok (.if_icmp .lt off, 3)) (ht : (pc : Int) + off = (tgt : Int)) (ha : a < 2 ^ 31) (hb1 : b < 2 ^ 31) (kt : a < b → W p l e R s m args below meth c H locs cells slots Q (F0 m tgt ls rest)) (kf : b ≤ a → W p l e R s m args below meth c H locs cells slots Q (F0 m (pc + 3) ls rest)) : W p l e R s m args below meth c H locs cells slots Q (F0 m pc ls (.int (nI b) :: .int (nI a) :: rest)) := lv_icmp_lt hx hb hdg ht (fun h => kt ((nI_ltI ha hb1).mp h)) (fun h => kf (Nat.not_lt.mp (fun q => h ((nI_ltI ha hb1).mpr q))))
theorem n_ic_ge (hx : p.tables.exec = Jvm.exec) (hb : c.code = cc) (hdg : decode cc pc = .ok (.if_icmp .ge off, 3)) (ht : (pc : Int) + off = (tgt : Int)) (ha : a < 2 ^ 31) (hb1 : b < 2 ^ 31) (kt : b ≤ a → W p l e R s m args below meth c H locs cells slots Q (F0 m tgt ls rest)) (kf : a < b → W p l e R s m args below meth c H locs cells slots Q (F0 m (pc + 3) ls rest)) : W p l e R s m args below meth c H locs cells slots Q (F0 m pc ls (.int (nI b) :: .int (nI a) :: rest)) := lv_icmp_ge hx hb hdg ht (fun h => kt ((nI_leI hb1 ha).mp h)) (fun h => kf (Nat.not_le.mp (fun q => h ((nI_leI hb1 ha).mpr q))))
theorem n_ic_gt (hx : p.tables.exec = Jvm.exec) (hb : c.code = cc) (hdg : decode cc pc = .ok (.if_icmp .gt off, 3)) (ht : (pc : Int) + off = (tgt : Int)) (ha : a < 2 ^ 31) (hb1 : b < 2 ^ 31) (kt : b < a → W p l e R s m args below meth c H locs cells slots Q (F0 m tgt ls rest)) (kf : a ≤ b → W p l e R s m args below meth c H locs cells slots Q (F0 m (pc + 3) ls rest)) : W p l e R s m args below meth c H locs cells slots Q (F0 m pc ls (.int (nI b) :: .int (nI a) :: rest)) := lv_icmp_gt hx hb hdg ht (fun h => kt ((nI_ltI hb1 ha).mp h)) (fun h => kf (Nat.not_lt.mp (fun q => h ((nI_ltI hb1 ha).mpr q))))
theorem n_ic_le (hx : p.tables.exec = Jvm.exec) (hb : c.code = cc) (hdg : decode cc pc = .ok (.if_icmp .le off, 3)) (ht : (pc : Int) + off = (tgt : Int)) (ha : a < 2 ^ 31) (hb1 : b < 2 ^ 31) (kt : a ≤ b → W p l e R s m args below meth c H locs cells slots Q (F0 m tgt ls rest)) (kf : b < a → W p l e R s m args below meth c H locs cells slots Q (F0 m (pc + 3) ls rest)) : W p l e R s m args below meth c H locs cells slots Q (F0 m pc ls (.int (nI b) :: .int (nI a) :: rest)) := lv_icmp_le hx hb hdg ht (fun h => kt ((nI_leI ha hb1).mp h)) (fun h => kf (Nat.not_le.mp (fun q => h ((nI_leI ha hb1).mpr q))))
theorem n_if_eq (hx : p.tables.exec = Jvm.exec) (hb : c.code = cc) (hdg : decode cc pc = .ok (.ifCond .eq off, 3)) (ht : (pc : Int) + off = (tgt : Int)) (ha : a < 2 ^ 31) (kt : a = 0 → W p l e R s m args below meth c H locs cells slots Q (F0 m tgt ls rest)) (kf : a ≠ 0 → W p l e R s m args below meth c H locs cells slots Q (F0 m (pc + 3) ls rest)) : W p l e R s m args below meth c H locs cells slots Q (F0 m pc ls (.int (nI a) :: rest)) := lv_if_eq hx hb hdg ht (fun h => kt ((nI_eq ha (by decide)).mp h)) (fun h => kf (fun q => h (by rw [q]; rfl)))
theorem n_if_ne (hx : p.tables.exec = Jvm.exec) (hb : c.code = cc) (hdg : decode cc pc = .ok (.ifCond .ne off, 3)) (ht : (pc : Int) + off = (tgt : Int)) (ha : a < 2 ^ 31) (kt : a ≠ 0 → W p l e R s m args below meth c H locs cells slots Q (F0 m tgt ls rest)) (kf : a = 0 → W p l e R s m args below meth c H locs cells slots Q (F0 m (pc + 3) ls rest)) : W p l e R s m args below meth c H locs cells slots Q (F0 m pc ls (.int (nI a) :: rest)) := lv_if_ne hx hb hdg ht (fun h => kt (fun q => h (by rw [q]; rfl))) (fun h => kf ((nI_eq ha (by decide)).mp h))
theorem n_if_lt (hx : p.tables.exec = Jvm.exec) (hb : c.code = cc) (hdg : decode cc pc = .ok (.ifCond .lt off, 3)) (ht : (pc : Int) + off = (tgt : Int)) (ha : a < 2 ^ 31) (kf : W p l e R s m args below meth c H locs cells slots Q (F0 m (pc + 3) ls rest)) : W p l e R s m args below meth c H locs cells slots Q (F0 m pc ls (.int (nI a) :: rest)) := lv_if_lt hx hb hdg ht (fun h => absurd h (nI_pos ha)) (fun _ => kf)
theorem n_if_ge (hx : p.tables.exec = Jvm.exec) (hb : c.code = cc) (hdg : decode cc pc = .ok (.ifCond .ge off, 3)) (ht : (pc : Int) + off = (tgt : Int)) (ha : a < 2 ^ 31) (kt : W p l e R s m args below meth c H locs cells slots Q (F0 m tgt ls rest)) : W p l e R s m args below meth c H locs cells slots Q (F0 m pc ls (.int (nI a) :: rest)) := lv_if_ge hx hb hdg ht (fun _ => kt) (fun h => absurd (nI_pos' ha) h)
theorem n_if_gt (hx : p.tables.exec = Jvm.exec) (hb : c.code = cc) (hdg : decode cc pc = .ok (.ifCond .gt off, 3)) (ht : (pc : Int) + off = (tgt : Int)) (ha : a < 2 ^ 31) (kt : 0 < a → W p l e R s m args below meth c H locs cells slots Q (F0 m tgt ls rest)) (kf : a = 0 → W p l e R s m args below meth c H locs cells slots Q (F0 m (pc + 3) ls rest)) : W p l e R s m args below meth c H locs cells slots Q (F0 m pc ls (.int (nI a) :: rest)) := lv_if_gt hx hb hdg ht (fun h => kt ((nI_ltI (a := 0) (by decide) ha).mp h)) (fun h => kf (Nat.eq_zero_of_not_pos (fun q => h ((nI_ltI (a := 0) (by decide) ha).mpr q))))
theorem n_if_le (hx : p.tables.exec = Jvm.exec) (hb : c.code = cc) (hdg : decode cc pc = .ok (.ifCond .le off, 3)) (ht : (pc : Int) + off = (tgt : Int)) (ha : a < 2 ^ 31) (kt : a = 0 → W p l e R s m args below meth c H locs cells slots Q (F0 m tgt ls rest)) (kf : 0 < a → W p l e R s m args below meth c H locs cells slots Q (F0 m (pc + 3) ls rest)) : W p l e R s m args below meth c H locs cells slots Q (F0 m pc ls (.int (nI a) :: rest)) := lv_if_le hx hb hdg ht (fun h => kt (Nat.eq_zero_of_not_pos (fun q => (Int32.not_le.mpr ((nI_ltI (a := 0) (by decide) ha).mpr q)) h))) (fun h => kf ((nI_ltI (a := 0) (by decide) ha).mp (Int32.not_le.mp h)))
end NROWS
