/-! ===== the two forms of contract of this proof, and their rows ===== -/
/-- the array classes, fixed for the whole run -/
abbrev TY (ca : Nat → ClassId) : List (ClassId × FieldType) := [(ca 0, .int), (ca 1, .long), (ca 2, .char), (ca 3, .boolean), (ca 4, .object "RenamingGrid$State")]
/-- the nest's links: fields of State and Exploration reached from the other classes, the constructors -/
def nwF : List (String × Nat × String × String × String) := [("RenamingGrid$Exploration", 66, "RenamingGrid$State", "size", "I"), ("RenamingGrid$Exploration", 38, "RenamingGrid$State", "processes", "I"), ("RenamingGrid", 44, "RenamingGrid$State", "processes", "I"), ("RenamingGrid$Exploration", 69, "RenamingGrid$State", "program", "I"), ("RenamingGrid$Exploration", 44, "RenamingGrid$State", "configuration", "J"), ("RenamingGrid", 84, "RenamingGrid$State", "configuration", "J"), ("RenamingGrid", 100, "RenamingGrid$State", "stepsMade", "J"), ("RenamingGrid", 128, "RenamingGrid$State", "entries", "J"), ("RenamingGrid", 131, "RenamingGrid$State", "rightExits", "J"), ("RenamingGrid", 134, "RenamingGrid$State", "downExits", "J"), ("RenamingGrid", 141, "RenamingGrid$Exploration", "count", "I")]
def nwM : List (Nat × MethodName) := [(9, yX4_init), (32, yX3_init), (149, yX2_init)]
def NW (U : State) : Prop := (∀ q ∈ nwF, va_Nw (.fieldLinkNest q.1 q.2.1 q.2.2.1 q.2.2.2.1 q.2.2.2.2 "RenamingGrid") U) ∧ (∀ q ∈ nwM, va_Nw (.methodLinkNest "RenamingGrid" q.1 q.2 "RenamingGrid") U) ∧ va_AO "RenamingGrid$State" U
theorem NW.same {u U : State} (h : u.vm = U.vm) (hN : NW u) : NW U := ⟨fun q hq => va_Nw.same rfl h (hN.1 q hq), fun q hq => va_Nw.same rfl h (hN.2.1 q hq), va_AO.moved (by rw [h]; exact Vm.Alike.refl U.vm) hN.2.2⟩
theorem NW.warm {s U : State} (hW : s.WarmedH U.vm) (hN : NW s) : NW U := ⟨fun q hq => va_Nw.warmF hW (hN.1 q hq), fun q hq => va_Nw.warmM hW (hN.2.1 q hq), va_AO.moved hW.alike hN.2.2⟩
/-- what every method takes as known of the machine -/
def KK (D : va_G) (ca : Nat → ClassId) (U : State) : Prop := va_K D vwCl (TY ca) U ∧ NW U
theorem KK.warm {D : va_G} {ca : Nat → ClassId} {s U : State} (hW : s.WarmedH U.vm) (h : KK D ca s) : KK D ca U := ⟨va_K.moved hW.alike h.1, h.2.warm hW⟩
theorem KK.same {D : va_G} {ca : Nat → ClassId} {u U : State} (e : u.vm = U.vm) (h : KK D ca u) : KK D ca U := ⟨va_K.moved (by rw [e]; exact Vm.Alike.refl U.vm) h.1, h.2.same e⟩
theorem nwf {D : va_G} {ca : Nat → ClassId} {s : State} {args : Array Value} (h : KK D ca s) (i : Nat) {q : String × Nat × String × String × String} (hq : nwF[i]? = some q) : (Cond.fieldLinkNest q.1 q.2.1 q.2.2.1 q.2.2.2.1 q.2.2.2.2 "RenamingGrid").before args s = true := va_Nw.use rfl (h.2.1 q (List.mem_of_getElem? hq))
theorem nw0 {D : va_G} {ca : Nat → ClassId} {s : State} {args : Array Value} (h : KK D ca s) : (Cond.fieldLinkNest RX2 66 RX4 "size" "I" "RenamingGrid").before args s = true := nwf h 0 rfl
theorem nw1 {D : va_G} {ca : Nat → ClassId} {s : State} {args : Array Value} (h : KK D ca s) : (Cond.fieldLinkNest RX2 38 RX4 "processes" "I" "RenamingGrid").before args s = true := nwf h 1 rfl
theorem nw2 {D : va_G} {ca : Nat → ClassId} {s : State} {args : Array Value} (h : KK D ca s) : (Cond.fieldLinkNest RX5 44 RX4 "processes" "I" "RenamingGrid").before args s = true := nwf h 2 rfl
theorem nw3 {D : va_G} {ca : Nat → ClassId} {s : State} {args : Array Value} (h : KK D ca s) : (Cond.fieldLinkNest RX2 69 RX4 "program" "I" "RenamingGrid").before args s = true := nwf h 3 rfl
theorem nw4 {D : va_G} {ca : Nat → ClassId} {s : State} {args : Array Value} (h : KK D ca s) : (Cond.fieldLinkNest RX2 44 RX4 "configuration" "J" "RenamingGrid").before args s = true := nwf h 4 rfl
theorem nw5 {D : va_G} {ca : Nat → ClassId} {s : State} {args : Array Value} (h : KK D ca s) : (Cond.fieldLinkNest RX5 84 RX4 "configuration" "J" "RenamingGrid").before args s = true := nwf h 5 rfl
theorem nw6 {D : va_G} {ca : Nat → ClassId} {s : State} {args : Array Value} (h : KK D ca s) : (Cond.fieldLinkNest RX5 100 RX4 "stepsMade" "J" "RenamingGrid").before args s = true := nwf h 6 rfl
theorem nw7 {D : va_G} {ca : Nat → ClassId} {s : State} {args : Array Value} (h : KK D ca s) : (Cond.fieldLinkNest RX5 128 RX4 "entries" "J" "RenamingGrid").before args s = true := nwf h 7 rfl
theorem nw8 {D : va_G} {ca : Nat → ClassId} {s : State} {args : Array Value} (h : KK D ca s) : (Cond.fieldLinkNest RX5 131 RX4 "rightExits" "J" "RenamingGrid").before args s = true := nwf h 8 rfl
theorem nw9 {D : va_G} {ca : Nat → ClassId} {s : State} {args : Array Value} (h : KK D ca s) : (Cond.fieldLinkNest RX5 134 RX4 "downExits" "J" "RenamingGrid").before args s = true := nwf h 9 rfl
theorem nw10 {D : va_G} {ca : Nat → ClassId} {s : State} {args : Array Value} (h : KK D ca s) : (Cond.fieldLinkNest RX5 141 RX2 "count" "I" "RenamingGrid").before args s = true := nwf h 10 rfl
/-- a read: the arguments, the cells Wd that are read -/
def rP (D : va_G) (ca : Nat → ClassId) (Wd : va_W) (As : List Value) : Array Value → State → Prop := fun v U => v = As.toArray ∧ va_P D vwCl Wd U.heap ∧ KK D ca U
theorem rP_blind (D : va_G) (ca : Nat → ClassId) (Wd : va_W) (As : List Value) : FrameBlind (rP D ca Wd As) := fun a U g mk q => ⟨q.1, q.2.1, KK.same (u := U) (U := U.calling g mk a) rfl q.2.2⟩
/-- the contract of a read: the answer is r, the heap stays -/
def RD (l : Launch) (D : va_G) (ca : Nat → ClassId) (y : MethodName) (ws : List Cond) (fr lo : Nat) (Wd : va_W) (As : List Value) (r : Value) : Prop :=
  Met l y ws ({ frames := fr, cells := 0, slots := 0, locals := lo }) (rP D ca Wd As) (k2_QcV r) 0 0 (fun _ => False)
/-- an update: the world Wd, apart; the heap's size is sz -/
def uP (D : va_G) (ca : Nat → ClassId) (Wd : va_W) (sz : Nat) (As : List Value) : Array Value → State → Prop := fun v U => v = As.toArray ∧ U.heap.size = sz ∧ va_P D vwCl Wd U.heap ∧ KK D ca U ∧ va_D (fun _ => True) Wd
theorem uP_blind (D : va_G) (ca : Nat → ClassId) (Wd : va_W) (sz : Nat) (As : List Value) : FrameBlind (uP D ca Wd sz As) := fun a U g mk q => ⟨q.1, q.2.1, q.2.2.1, KK.same (u := U) (U := U.calling g mk a) rfl q.2.2.2.1, q.2.2.2.2⟩
def uQA (D : va_G) (ca : Nat → ClassId) (A : Nat → Prop) (Om : Option Value → va_W → Prop) : Array Value → State → Outcome → State → Prop := fun _ st oc t =>
  (∃ (v : Option Value) (W1 : va_W), oc = .returned v ∧ Om v W1 ∧ va_P D vwCl W1 t.heap ∧ KK D ca t ∧ va_D A W1) ∧ va_F A st t
/-- the contract of an update: answer and world behind it as Om says -/
def UP (l : Launch) (D : va_G) (ca : Nat → ClassId) (y : MethodName) (ws : List Cond) (fr lo mc ms : Nat) (Wd : va_W) (As : List Value) (Om : Option Value → va_W → Prop) : Prop :=
  ∀ sz : Nat, Met l y ws ({ frames := fr, cells := mc, slots := ms, locals := lo }) (uP D ca Wd sz As) (uQA D ca (va_A Wd sz) Om) mc ms (va_A Wd sz)
/-- one answer, one world -/
def one (v0 : Option Value) (W0 : va_W) : Option Value → va_W → Prop := fun v W1 => v = v0 ∧ W1 = W0
theorem RD.start {l : Launch} {D : va_G} {ca : Nat → ClassId} {y : MethodName} {ws ws' : List Cond} {fr lo : Nat} {Wd : va_W} {As : List Value} {r : Value} {cc : ByteArray} {maxL : Nat} {ret : Option FieldType}
    (hy : plainName y.cls = true) (hw : ws = Cond.code y cc maxL ret :: ws') (hn : (lg_sl As).length ≤ maxL)
    (body : ∀ (p : Program) (e : Env) (s : State) (m : MethodId) (below : List Frame) (meth : Method) (c : Code), p.tables.exec = Jvm.exec → c.code = cc → c.maxLocals = maxL → meth.sig.returnType = ret → meth.locks = false → s.vm.findClass y.cls = some m.cls → (∀ w ∈ ws, w.before As.toArray s = true) → va_P D vwCl Wd s.heap → KK D ca s → ∀ ls : Array Slot, lv_has ls maxL (lv_args 0 As) →
      W p l e ({ frames := fr, cells := 0, slots := 0, locals := lo }) s m As.toArray below meth c s.heap [] 0 0 (MQ below (k2_QcV r) As.toArray s 0 0 (fun _ => False)) (F0 m 0 ls [])) : RD l D ca y ws fr lo Wd As r := by
  refine Met.ofW (cc := cc) (maxL := maxL) (ret := ret) hy hw ?_
  intro p e s m args below meth c s₁ B hml hv
  obtain ⟨rfl, hP, hK⟩ := hv
  have hts := atoms_spec (ws := ws) B.pre
  have hown : s.vm.findClass y.cls = some m.cls := findClass_of_methodNamed B.named
  have hl := lv_entry As (n := maxL) hn
  rw [lg_entry_eq]
  exact body p e s m below meth c B.exec B.bytes hml B.returns B.notSynchronized hown hts hP hK _ hl
theorem UP.start {l : Launch} {D : va_G} {ca : Nat → ClassId} {y : MethodName} {ws ws' : List Cond} {fr lo mc ms : Nat} {Wd : va_W} {As : List Value} {Om : Option Value → va_W → Prop} {cc : ByteArray} {maxL : Nat} {ret : Option FieldType}
    (hy : plainName y.cls = true) (hw : ws = Cond.code y cc maxL ret :: ws') (hn : (lg_sl As).length ≤ maxL)
    (body : ∀ (p : Program) (e : Env) (s : State) (m : MethodId) (below : List Frame) (meth : Method) (c : Code) (A : Nat → Prop), p.tables.exec = Jvm.exec → c.code = cc → c.maxLocals = maxL → meth.sig.returnType = ret → meth.locks = false → meth.name = y.name → s.vm.findClass y.cls = some m.cls → (∀ w ∈ ws, w.before As.toArray s = true) → KK D ca s → (∀ q : Nat, s.heap.size ≤ q → A q) → va_P D vwCl Wd s.heap → va_D A Wd → va_S A s.heap s.heap [] → ∀ ls : Array Slot, lv_has ls maxL (lv_args 0 As) →
      W p l e ({ frames := fr, cells := mc, slots := ms, locals := lo }) s m As.toArray below meth c s.heap [] 0 0 (MQ below (uQA D ca A Om) As.toArray s mc ms A) (F0 m 0 ls [])) : UP l D ca y ws fr lo mc ms Wd As Om := by
  intro sz
  refine Met.ofW (cc := cc) (maxL := maxL) (ret := ret) hy hw ?_
  intro p e s m args below meth c s₁ B hml hv
  obtain ⟨rfl, hsz, hP, hK, hD0⟩ := hv
  have hts := atoms_spec (ws := ws) B.pre
  have hown : s.vm.findClass y.cls = some m.cls := findClass_of_methodNamed B.named
  have hin : meth.name = y.name := (name_of_methodNamed B.named B.method).1
  subst hsz
  have hl := lv_entry As (n := maxL) hn
  rw [lg_entry_eq]
  exact body p e s m below meth c _ B.exec B.bytes hml B.returns B.notSynchronized hin hown hts hK (fun q h => Or.inr h) hP (hD0.self (sz := s.heap.size)) va_S.rf _ hl
section RU
variable {p : Program} {l : Launch} {e : Env} {R : Room} {s : State} {m : MethodId} {args : Array Value} {below : List Frame} {meth : Method} {c : Code} {H : Heap} {locs : List Loc} {cells slots : Nat} {Q : State → Prop}
variable {cc : ByteArray} {pc : Nat} {ls : Array Slot} {rest : List Value} {D : va_G} {ca : Nat → ClassId} {A : Nat → Prop} {r : Value} {Om : Option Value → va_W → Prop} {mc ms : Nat} {W1 : va_W}
-- the ends of a read
theorem rRetI (hx : p.tables.exec = Jvm.exec) (hb : c.code = cc) (hr : meth.sig.returnType = some .int) (hlocks : meth.locks = false) {v : Int32} (hv : Value.int v = r) (hdg : decode cc pc = .ok (.ireturn, 1)) :
    W p l e R s m args below meth c s.heap [] 0 0 (MQ below (k2_QcV r) args s 0 0 (fun _ => False)) (F0 m pc ls [.int v]) := by
  subst hv
  exact W.iret hx hb hr (fun t ht hW => ⟨rfl, ht⟩) (fun q h => by cases h) hdg hlocks
theorem rRetZ (hx : p.tables.exec = Jvm.exec) (hb : c.code = cc) (hr : meth.sig.returnType = some .boolean) (hlocks : meth.locks = false) {v : Int32} (hn : narrow .boolean (.int v) = .int v) (hv : Value.int v = r) (hdg : decode cc pc = .ok (.ireturn, 1)) :
    W p l e R s m args below meth c s.heap [] 0 0 (MQ below (k2_QcV r) args s 0 0 (fun _ => False)) (F0 m pc ls [.int v]) := by
  subst hv
  exact W.zret hx hb hr hn (fun t ht hW => ⟨rfl, ht⟩) (fun q h => by cases h) hdg hlocks
theorem rRetL (hx : p.tables.exec = Jvm.exec) (hb : c.code = cc) (hr : meth.sig.returnType = some .long) (hlocks : meth.locks = false) {v : Int64} (hv : Value.long v = r) (hdg : decode cc pc = .ok (.lreturn, 1)) :
    W p l e R s m args below meth c s.heap [] 0 0 (MQ below (k2_QcV r) args s 0 0 (fun _ => False)) (F0 m pc ls [.long v]) := by
  subst hv
  exact W.lret hx hb hr (fun t ht hW => ⟨rfl, ht⟩) (fun q h => by cases h) hdg hlocks
-- the ends of an update
theorem uRetV (hx : p.tables.exec = Jvm.exec) (hb : c.code = cc) (hr : meth.sig.returnType = none) (hlocks : meth.locks = false) (hK : KK D ca s) (hP : va_P D vwCl W1 H) (hD : va_D A W1) (hS : va_S A s.heap H locs) (hO : Om none W1) (hc : cells ≤ mc) (hs : slots ≤ ms) (hdg : decode cc pc = .ok (.return_, 1)) :
    W p l e R s m args below meth c H locs cells slots (MQ below (uQA D ca A Om) args s mc ms A) (F0 m pc ls []) := by
  refine W.widen hc hs ?_
  exact W.vret hx hb hr (fun t ht hW => ⟨⟨none, W1, rfl, hO, by rw [ht]; exact hP, hK.warm hW, hD⟩, hS.F ht⟩) hS.2.2 hdg hlocks
theorem uRetI (hx : p.tables.exec = Jvm.exec) (hb : c.code = cc) (hr : meth.sig.returnType = some .int) (hlocks : meth.locks = false) (hK : KK D ca s) (hP : va_P D vwCl W1 H) (hD : va_D A W1) (hS : va_S A s.heap H locs) {v : Int32} (hO : Om (some (.int v)) W1) (hc : cells ≤ mc) (hs : slots ≤ ms) (hdg : decode cc pc = .ok (.ireturn, 1)) :
    W p l e R s m args below meth c H locs cells slots (MQ below (uQA D ca A Om) args s mc ms A) (F0 m pc ls [.int v]) := by
  refine W.widen hc hs ?_
  exact W.iret hx hb hr (fun t ht hW => ⟨⟨_, W1, rfl, hO, by rw [ht]; exact hP, hK.warm hW, hD⟩, hS.F ht⟩) hS.2.2 hdg hlocks
theorem uRetZ (hx : p.tables.exec = Jvm.exec) (hb : c.code = cc) (hr : meth.sig.returnType = some .boolean) (hlocks : meth.locks = false) (hK : KK D ca s) (hP : va_P D vwCl W1 H) (hD : va_D A W1) (hS : va_S A s.heap H locs) {v : Int32} (hn : narrow .boolean (.int v) = .int v) (hO : Om (some (.int v)) W1) (hc : cells ≤ mc) (hs : slots ≤ ms) (hdg : decode cc pc = .ok (.ireturn, 1)) :
    W p l e R s m args below meth c H locs cells slots (MQ below (uQA D ca A Om) args s mc ms A) (F0 m pc ls [.int v]) := by
  refine W.widen hc hs ?_
  exact W.zret hx hb hr hn (fun t ht hW => ⟨⟨_, W1, rfl, hO, by rw [ht]; exact hP, hK.warm hW, hD⟩, hS.F ht⟩) hS.2.2 hdg hlocks
end RU
section RC
variable {p : Program} {l : Launch} {e : Env} {R : Room} {s : State} {m : MethodId} {args : Array Value} {below : List Frame} {meth : Method} {c : Code} {H : Heap} {locs : List Loc} {cells slots : Nat} {Q : State → Prop}
variable {cc : ByteArray} {pc : Nat} {ls : Array Slot} {D : va_G} {ca : Nat → ClassId} {A : Nat → Prop} {Wd W0 W1 wr wsN : va_W} {Ts ws ws' : List Cond} {own : String} {index fr lo mc ms nL maxL : Nat} {y : MethodName} {bytes : ByteArray} {ret : Option FieldType} {st0 st1 : List Value} {r : Value} {Om : Option Value → va_W → Prop} {H0 : Heap}
/-- a static read called -/
theorem rdS (hx : p.tables.exec = Jvm.exec) (hb : c.code = cc) (hml : c.maxLocals = nL) (hown : s.vm.findClass own = some m.cls) (hts : ∀ w ∈ Ts, w.before args s = true) (hK : KK D ca s) (hP : va_P D vwCl W0 H) (As rest : List Value)
    (hM : RD l D ca y ws fr lo Wd As r) (hg : GoodIn Ts (va_wsS own index y ws)) (hw : ws = Cond.code y bytes maxL ret :: ws') (hd : y.cls ≠ "java/lang/invoke/MethodHandle" ∧ y.cls ≠ "java/lang/invoke/VarHandle" ∧ (parseMethodDescriptor y.desc).map (fun d => d.parameters.length) = some As.length)
    (hR : fr + 1 ≤ R.frames ∧ 8 + (maxL + 11) + lo ≤ R.locals) (is : List Nat) (hs : is.filterMap (fun i => W0[i]?) = Wd) (hst : st0 = As.reverse ++ rest) (hsz : ls.size = nL) (hroom : (rest.map fun v => v.category).sum ≤ 8) (hf : cells ≤ R.cells ∧ slots ≤ R.slots) (hdg : decode cc pc = .ok (.invokestatic index, 3))
    (kk : W p l e R s m args below meth c H locs cells slots Q (F0 m (pc + 3) ls (r :: rest))) : W p l e R s m args below meth c H locs cells slots Q (F0 m pc ls st0) := by
  refine W.callV (g := F0 m pc ls st0) (rest := rest) (W.runS (As := As) (rest := rest) (g := F0 m pc ls st0) ⟨hx, hb, hml, hown, hts⟩ hM (va_cwS As.length hts hg hw rfl rfl hd hR) ⟨rP_blind _ _ _ _, fun U hU hW => ⟨rfl, by rw [hU]; exact hP.sub is hs, hK.warm hW⟩⟩ rfl rfl hsz hst (lv_room hroom) hdg hf) ?_
  exact kk
/-- a read of an object called -/
theorem rdV {b q0 ci : Nat} {cq : vw_C} {fs : List Value} (hx : p.tables.exec = Jvm.exec) (hb : c.code = cc) (hml : c.maxLocals = nL) (hown : s.vm.findClass own = some m.cls) (hts : ∀ w ∈ Ts, w.before args s = true) (hK : KK D ca s) (hP : va_P D vwCl W0 H) (As rest : List Value)
    (hM : RD l D ca y ws fr lo Wd (.ref b :: As) r) (hg : GoodIn Ts (wsV own index y.cls y ws)) (hw : ws = Cond.code y bytes maxL ret :: ws') (hd : y.cls = cq.1 ∧ y.cls ≠ "java/lang/invoke/MethodHandle" ∧ y.cls ≠ "java/lang/invoke/VarHandle" ∧ (parseMethodDescriptor y.desc).map (fun d => d.parameters.length) = some As.length)
    (hR : fr + 1 ≤ R.frames ∧ 8 + (maxL + 11) + lo ≤ R.locals) (hc : vwCl[ci]? = some cq) (he : W0[q0]? = some (b, .inr (ci, fs))) (is : List Nat) (hs : is.filterMap (fun i => W0[i]?) = Wd) (hst : st0 = As.reverse ++ .ref b :: rest) (hsz : ls.size = nL) (hroom : (rest.map fun v => v.category).sum ≤ 8) (hf : cells ≤ R.cells ∧ slots ≤ R.slots) (hdg : decode cc pc = .ok (.invokevirtual index, 3))
    (kk : W p l e R s m args below meth c H locs cells slots Q (F0 m (pc + 3) ls (r :: rest))) : W p l e R s m args below meth c H locs cells slots Q (F0 m pc ls st0) := by
  obtain ⟨hd0, hd⟩ := hd
  refine W.callV (g := F0 m pc ls st0) (rest := rest) (W.runV (As := As) (rest := rest) (b := b) (C := y.cls) (g := F0 m pc ls st0) ⟨hx, hb, hml, hown, hts⟩ hM (cwV As.length hts hg hw rfl rfl ⟨rfl, hd⟩ hR) ⟨rP_blind _ _ _ _, by rw [hd0]; exact va_recv hK.1 hP hc he, fun U hU hW => ⟨rfl, by rw [hU]; exact hP.sub is hs, hK.warm hW⟩⟩ rfl rfl hsz hst (lv_room hroom) hdg hf) ?_
  exact kk
/-- behind an update: its run, and what goes on -/
theorem uAfter {sz : Nat} {rest : List Value} {aa : Array Value} (hD : va_D A W0) (hP : va_P D vwCl W0 H) (hS : va_S A H0 H locs) (hA : ∀ q, H0.size ≤ q → A q) (isC isR : List Nat) (hC : isC.map (fun i => W0[i]?) = Wd.map some) (hRr : isR.map (fun i => W0[i]?) = wr.map some) (hn : va_nd isR = true) (hdis : ∀ i ∈ isR, i ∉ isC) (hz : H.size = sz)
    (hr : va_Run p l e R s m args below meth c H locs cells slots mc ms (F0 m pc ls st0) rest (uQA D ca (va_A Wd sz) Om aa) (va_A Wd sz))
    (kk : ∀ (v : Option Value) (W1 : va_W) (H1 : Heap) (locs1 : List Loc), Om v W1 → va_P D vwCl (wr ++ W1) H1 → va_D A (wr ++ W1) → va_S A H0 H1 locs1 → W p l e R s m args below meth c H1 locs1 (cells + mc) (slots + ms) Q (F0 m (pc + 3) ls (v.toList ++ rest))) : W p l e R s m args below meth c H locs cells slots Q (F0 m pc ls st0) := by
  subst hz
  intro T hT X
  obtain ⟨v, st₀, t, T', L, h0, X', hL, e1, e2, ⟨⟨v', W1, hv, hO, hP1, hK1, hD1⟩, hz, hk⟩, st⟩ := hr T hT X
  cases hv
  rw [h0] at hz hk
  have hF := va_free (wc := Wd) hD hS hA isC hC
  rw [← e1] at hP1 hz hk
  obtain ⟨hPj, hDj⟩ := va_join (wr := wr) (w1 := W1) hP hD isC isR hC hRr hn hdis hk hF hP1 hD1
  obtain ⟨t2, a1, b1⟩ := kk v W1 T'.heap (locs ++ L) hO hPj hDj
    ⟨Nat.le_trans hS.1 hz, fun q h1 h2 => by rw [hk q (Nat.lt_of_lt_of_le h1 hS.1) (fun z => h2 (hF q z))]; exact hS.2.1 q h1 h2, fun q hq => by
      rcases List.mem_append.mp hq with h | h
      · exact hS.2.2 q h
      · exact hF _ (hL q h)⟩ T' rfl X'
  exact ⟨t2, st t2 a1, b1⟩
theorem uV {b q0 ci : Nat} {cq : vw_C} {fs : List Value} (hx : p.tables.exec = Jvm.exec) (hb : c.code = cc) (hml : c.maxLocals = nL) (hown : s.vm.findClass own = some m.cls) (hts : ∀ w ∈ Ts, w.before args s = true) (hK : KK D ca s) (hA : ∀ q, H0.size ≤ q → A q) (hP : va_P D vwCl W0 H) (hD : va_D A W0) (hS : va_S A H0 H locs) (As rest : List Value)
    (hM : UP l D ca y ws fr lo mc ms Wd (.ref b :: As) Om) (hg : GoodIn Ts (wsV own index y.cls y ws)) (hw : ws = Cond.code y bytes maxL ret :: ws') (hd : y.cls = cq.1 ∧ y.cls ≠ "java/lang/invoke/MethodHandle" ∧ y.cls ≠ "java/lang/invoke/VarHandle" ∧ (parseMethodDescriptor y.desc).map (fun d => d.parameters.length) = some As.length)
    (hR : fr + 1 ≤ R.frames ∧ 8 + (maxL + 11) + lo ≤ R.locals) (hc : vwCl[ci]? = some cq) (he : W0[q0]? = some (b, .inr (ci, fs))) (isC isR : List Nat) (hC : isC.map (fun i => W0[i]?) = Wd.map some) (hRr : isR.map (fun i => W0[i]?) = wr.map some) (hnd : va_nd isC = true ∧ va_nd isR = true) (hdis : ∀ i ∈ isR, i ∉ isC)
    (hst : st0 = As.reverse ++ .ref b :: rest) (hsz : ls.size = nL) (hroom : (rest.map fun v => v.category).sum ≤ 8) (hf : cells + mc ≤ R.cells ∧ slots + ms ≤ R.slots) (hdg : decode cc pc = .ok (.invokevirtual index, 3))
    (kk : ∀ (v : Option Value) (W1 : va_W) (H1 : Heap) (locs1 : List Loc), Om v W1 → va_P D vwCl (wr ++ W1) H1 → va_D A (wr ++ W1) → va_S A H0 H1 locs1 → W p l e R s m args below meth c H1 locs1 (cells + mc) (slots + ms) Q (F0 m (pc + 3) ls (v.toList ++ rest))) : W p l e R s m args below meth c H locs cells slots Q (F0 m pc ls st0) := by
  obtain ⟨hd0, hd⟩ := hd
  have hs : isC.filterMap (fun i => W0[i]?) = Wd := by
    have h1 : isC.filterMap (fun i => W0[i]?) = (isC.map (fun i => W0[i]?)).filterMap id := by rw [List.filterMap_map]; rfl
    rw [h1, hC, List.filterMap_map]
    exact List.filterMap_some
  refine uAfter (sz := H.size) hD hP hS hA isC isR hC hRr hnd.2 hdis rfl (va_runV (As := As) (rest := rest) (b := b) (C := y.cls) (g := F0 m pc ls st0) ⟨hx, hb, hml, hown, hts⟩ (hM H.size) (cwV As.length hts hg hw rfl rfl ⟨rfl, hd⟩ hR) ⟨uP_blind _ _ _ _ _, by rw [hd0]; exact va_recv hK.1 hP hc he, fun U hU hW => ⟨rfl, by rw [hU], by rw [hU]; exact hP.sub isC hs, hK.warm hW, (hD.sub isC hnd.1 hC).weaken (fun _ _ _ _ => trivial)⟩⟩ rfl rfl hsz hst (lv_room hroom) hdg hf) kk
theorem uS (hx : p.tables.exec = Jvm.exec) (hb : c.code = cc) (hml : c.maxLocals = nL) (hown : s.vm.findClass own = some m.cls) (hts : ∀ w ∈ Ts, w.before args s = true) (hK : KK D ca s) (hA : ∀ q, H0.size ≤ q → A q) (hP : va_P D vwCl W0 H) (hD : va_D A W0) (hS : va_S A H0 H locs) (As rest : List Value)
    (hM : UP l D ca y ws fr lo mc ms Wd As Om) (hg : GoodIn Ts (va_wsS own index y ws)) (hw : ws = Cond.code y bytes maxL ret :: ws') (hd : y.cls ≠ "java/lang/invoke/MethodHandle" ∧ y.cls ≠ "java/lang/invoke/VarHandle" ∧ (parseMethodDescriptor y.desc).map (fun d => d.parameters.length) = some As.length)
    (hR : fr + 1 ≤ R.frames ∧ 8 + (maxL + 11) + lo ≤ R.locals) (isC isR : List Nat) (hC : isC.map (fun i => W0[i]?) = Wd.map some) (hRr : isR.map (fun i => W0[i]?) = wr.map some) (hnd : va_nd isC = true ∧ va_nd isR = true) (hdis : ∀ i ∈ isR, i ∉ isC)
    (hst : st0 = As.reverse ++ rest) (hsz : ls.size = nL) (hroom : (rest.map fun v => v.category).sum ≤ 8) (hf : cells + mc ≤ R.cells ∧ slots + ms ≤ R.slots) (hdg : decode cc pc = .ok (.invokestatic index, 3))
    (kk : ∀ (v : Option Value) (W1 : va_W) (H1 : Heap) (locs1 : List Loc), Om v W1 → va_P D vwCl (wr ++ W1) H1 → va_D A (wr ++ W1) → va_S A H0 H1 locs1 → W p l e R s m args below meth c H1 locs1 (cells + mc) (slots + ms) Q (F0 m (pc + 3) ls (v.toList ++ rest))) : W p l e R s m args below meth c H locs cells slots Q (F0 m pc ls st0) := by
  have hs : isC.filterMap (fun i => W0[i]?) = Wd := by
    have h1 : isC.filterMap (fun i => W0[i]?) = (isC.map (fun i => W0[i]?)).filterMap id := by rw [List.filterMap_map]; rfl
    rw [h1, hC, List.filterMap_map]
    exact List.filterMap_some
  refine uAfter (sz := H.size) hD hP hS hA isC isR hC hRr hnd.2 hdis rfl (va_runS (As := As) (rest := rest) (g := F0 m pc ls st0) ⟨hx, hb, hml, hown, hts⟩ (hM H.size) (va_cwS As.length hts hg hw rfl rfl hd hR) ⟨uP_blind _ _ _ _ _, fun U hU hW => ⟨rfl, by rw [hU], by rw [hU]; exact hP.sub isC hs, hK.warm hW, (hD.sub isC hnd.1 hC).weaken (fun _ _ _ _ => trivial)⟩⟩ rfl rfl hsz hst (lv_room hroom) hdg hf) kk
/-- a constructor called on a new object -/
theorem uI {b : Nat} (hx : p.tables.exec = Jvm.exec) (hb : c.code = cc) (hml : c.maxLocals = nL) (hown : s.vm.findClass own = some m.cls) (hts : ∀ w ∈ Ts, w.before args s = true) (hK : KK D ca s) (hA : ∀ q, H0.size ≤ q → A q) (hP : va_P D vwCl W0 H) (hD : va_D A W0) (hS : va_S A H0 H locs) (As rest : List Value)
    (hM : UP l D ca y ws fr lo mc ms Wd (.ref b :: As) Om) (hg : GoodIn Ts ws) (hw : ws = Cond.code y bytes maxL none :: ws') (hini : (Cond.initialized y.cls).before args s = true) (hlk : (Cond.methodLink own index y).before args s = true) (hinm : (Cond.instanceMethod y).before args s = true) (hy1 : y.name = "<init>") (hd : y.cls ≠ "java/lang/invoke/MethodHandle" ∧ y.cls ≠ "java/lang/invoke/VarHandle" ∧ (parseMethodDescriptor y.desc).map (fun d => d.parameters.length) = some As.length)
    (hR : fr + 1 ≤ R.frames ∧ 8 + (maxL + 11) + lo ≤ R.locals) (isC isR : List Nat) (hC : isC.map (fun i => W0[i]?) = Wd.map some) (hRr : isR.map (fun i => W0[i]?) = wr.map some) (hnd : va_nd isC = true ∧ va_nd isR = true) (hdis : ∀ i ∈ isR, i ∉ isC)
    (hst : st0 = As.reverse ++ .ref b :: rest) (hsz : ls.size = nL) (hroom : (rest.map fun v => v.category).sum ≤ 8) (hf : cells + mc ≤ R.cells ∧ slots + ms ≤ R.slots) (hdg : decode cc pc = .ok (.invokespecial index, 3))
    (kk : ∀ (v : Option Value) (W1 : va_W) (H1 : Heap) (locs1 : List Loc), Om v W1 → va_P D vwCl (wr ++ W1) H1 → va_D A (wr ++ W1) → va_S A H0 H1 locs1 → W p l e R s m args below meth c H1 locs1 (cells + mc) (slots + ms) Q (F0 m (pc + 3) ls (v.toList ++ rest))) : W p l e R s m args below meth c H locs cells slots Q (F0 m pc ls st0) := by
  have hs : isC.filterMap (fun i => W0[i]?) = Wd := by
    have h1 : isC.filterMap (fun i => W0[i]?) = (isC.map (fun i => W0[i]?)).filterMap id := by rw [List.filterMap_map]; rfl
    rw [h1, hC, List.filterMap_map]
    exact List.filterMap_some
  refine uAfter (sz := H.size) hD hP hS hA isC isR hC hRr hnd.2 hdis rfl (va_runI (As := As) (rest := rest) (b := b) (g := F0 m pc ls st0) ⟨hx, hb, hml, hown, hts⟩ (hM H.size) (cwI As.length hts hg hw rfl rfl hini hlk hinm hy1 hd hR) ⟨uP_blind _ _ _ _ _, fun U hU hW => ⟨rfl, by rw [hU], by rw [hU]; exact hP.sub isC hs, hK.warm hW, (hD.sub isC hnd.1 hC).weaken (fun _ _ _ _ => trivial)⟩⟩ rfl rfl hsz hst (lv_room hroom) hdg hf) kk
/-- a constructor of a nest mate called on a new object -/
theorem uIN {b : Nat} (hx : p.tables.exec = Jvm.exec) (hb : c.code = cc) (hml : c.maxLocals = nL) (hown : s.vm.findClass own = some m.cls) (hts : ∀ w ∈ Ts, w.before args s = true) (hK : KK D ca s) (hA : ∀ q, H0.size ≤ q → A q) (hP : va_P D vwCl W0 H) (hD : va_D A W0) (hS : va_S A H0 H locs) (As rest : List Value)
    (hM : UP l D ca y ws fr lo mc ms Wd (.ref b :: As) Om) (hg : GoodIn Ts ws) (hw : ws = Cond.code y bytes maxL none :: ws') (hini : (Cond.initialized y.cls).before args s = true) (hlk : va_Nw (.methodLinkNest own index y "RenamingGrid") s) (hinm : (Cond.instanceMethod y).before args s = true) (hy1 : y.name = "<init>") (hd : y.cls ≠ "java/lang/invoke/MethodHandle" ∧ y.cls ≠ "java/lang/invoke/VarHandle" ∧ (parseMethodDescriptor y.desc).map (fun d => d.parameters.length) = some As.length)
    (hR : fr + 1 ≤ R.frames ∧ 8 + (maxL + 11) + lo ≤ R.locals) (isC isR : List Nat) (hC : isC.map (fun i => W0[i]?) = Wd.map some) (hRr : isR.map (fun i => W0[i]?) = wr.map some) (hnd : va_nd isC = true ∧ va_nd isR = true) (hdis : ∀ i ∈ isR, i ∉ isC)
    (hst : st0 = As.reverse ++ .ref b :: rest) (hsz : ls.size = nL) (hroom : (rest.map fun v => v.category).sum ≤ 8) (hf : cells + mc ≤ R.cells ∧ slots + ms ≤ R.slots) (hdg : decode cc pc = .ok (.invokespecial index, 3))
    (kk : ∀ (v : Option Value) (W1 : va_W) (H1 : Heap) (locs1 : List Loc), Om v W1 → va_P D vwCl (wr ++ W1) H1 → va_D A (wr ++ W1) → va_S A H0 H1 locs1 → W p l e R s m args below meth c H1 locs1 (cells + mc) (slots + ms) Q (F0 m (pc + 3) ls (v.toList ++ rest))) : W p l e R s m args below meth c H locs cells slots Q (F0 m pc ls st0) := by
  have hs : isC.filterMap (fun i => W0[i]?) = Wd := by
    have h1 : isC.filterMap (fun i => W0[i]?) = (isC.map (fun i => W0[i]?)).filterMap id := by rw [List.filterMap_map]; rfl
    rw [h1, hC, List.filterMap_map]
    exact List.filterMap_some
  refine uAfter (sz := H.size) hD hP hS hA isC isR hC hRr hnd.2 hdis rfl (va_runIN (As := As) (rest := rest) (b := b) (g := F0 m pc ls st0) ⟨hx, hb, hml, hown, hts⟩ (hM H.size) ⟨va_cnB As.length hts hg hw rfl rfl hlk hini hd hR, hy1, hinm⟩ ⟨uP_blind _ _ _ _ _, fun U hU hW => ⟨rfl, by rw [hU], by rw [hU]; exact hP.sub isC hs, hK.warm hW, (hD.sub isC hnd.1 hC).weaken (fun _ _ _ _ => trivial)⟩⟩ rfl rfl hsz hst (lv_room hroom) hdg hf) kk
/-- one answer, one world: the cells in their old order again -/
theorem oneK {v0 : Option Value} {W2 : va_W} {rest st1 : List Value} (perm : List Nat) (hnd : va_nd perm = true) (hp : perm.map (fun i => (wr ++ W2)[i]?) = wsN.map some) (hst1 : v0.toList ++ rest = st1) (cells1 slots1 : Nat) (hc : cells = cells1) (hsl : slots = slots1)
    (kk : ∀ (H1 : Heap) (locs1 : List Loc), va_P D vwCl wsN H1 → va_D A wsN → va_S A H0 H1 locs1 → W p l e R s m args below meth c H1 locs1 cells1 slots1 Q (F0 m pc ls st1)) :
    ∀ (v : Option Value) (W1 : va_W) (H1 : Heap) (locs1 : List Loc), one v0 W2 v W1 → va_P D vwCl (wr ++ W1) H1 → va_D A (wr ++ W1) → va_S A H0 H1 locs1 → W p l e R s m args below meth c H1 locs1 cells slots Q (F0 m pc ls (v.toList ++ rest)) := by
  intro v W1 H1 locs1 hO hP hD hS
  obtain ⟨rfl, rfl⟩ := hO
  subst hst1; subst hc; subst hsl
  have hs : perm.filterMap (fun i => (wr ++ W1)[i]?) = wsN := by
    have h1 : perm.filterMap (fun i => (wr ++ W1)[i]?) = (perm.map (fun i => (wr ++ W1)[i]?)).filterMap id := by rw [List.filterMap_map]; rfl
    rw [h1, hp, List.filterMap_map]
    exact List.filterMap_some
  exact kk H1 locs1 (hP.sub perm hs) (hD.sub perm hnd hp) hS
end RC
