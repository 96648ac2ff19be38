/-! what every walk here stands on: the nest words, a contract as an equation (answer and world behind), the start, the end, the call -/
def nestF : List (String × Nat × String × String × String × String) := [("WishWellModel", 68, "WishWellModel$State", "today", "I", "WishWellModel"), ("WishWellModel", 84, "WishWellModel$State", "favour", "I", "WishWellModel"), ("WishWellModel", 126, "WishWellModel$State", "turn", "I", "WishWellModel"), ("WishWellModel", 93, "WishWellModel$State", "pile", "[I", "WishWellModel"), ("WishWellModel", 111, "WishWellModel$State", "came", "[I", "WishWellModel"), ("WishWellModel", 81, "WishWellModel$State", "how", "[I", "WishWellModel"), ("WishWellModel", 71, "WishWellModel$State", "when", "[I", "WishWellModel"), ("WishWellModel$State", 69, "WishWellModel", "lands", "I", "WishWellModel"), ("WishWellModel$State", 48, "WishWellModel", "value", "[I", "WishWellModel"), ("WishWellModel$State", 76, "WishWellModel", "weight", "[I", "WishWellModel"), ("WishWellModel$State", 66, "WishWellModel", "tide", "[I", "WishWellModel"), ("WishWellModel$State", 57, "WishWellModel", "wishes", "I", "WishWellModel"), ("WishWellModel$State", 60, "WishWellModel", "kind", "[I", "WishWellModel"), ("WishWellModel$State", 63, "WishWellModel", "landOf", "[I", "WishWellModel")]
def nestM : List (String × Nat × MethodName × String) := [("WishWell", 9, ⟨"WishWell$Well", "<init>", "()V"⟩, "WishWell"), ("WishWell$Well", 11, ⟨"WishWell$Lands", "<init>", "()V"⟩, "WishWell"), ("WishWell$Well", 20, ⟨"WishWell$Wishes", "<init>", "()V"⟩, "WishWell"), ("WishWell$Well", 27, ⟨"WishWell$Layers", "<init>", "()V"⟩, "WishWell"), ("WishWellModel", 36, ⟨"WishWellModel$State", "<init>", "(LWishWellModel;)V"⟩, "WishWellModel")]
def NN (U : State) : Prop := (∀ q ∈ nestF, va_Nw (.fieldLinkNest q.1 q.2.1 q.2.2.1 q.2.2.2.1 q.2.2.2.2.1 q.2.2.2.2.2) U) ∧ (∀ q ∈ nestM, va_Nw (.methodLinkNest q.1 q.2.1 q.2.2.1 q.2.2.2) U)
theorem NN.warm {s U : State} (hW : s.WarmedH U.vm) (h : NN s) : NN U := ⟨fun q hq => va_Nw.warmF hW (h.1 q hq), fun q hq => va_Nw.warmM hW (h.2 q hq)⟩
theorem NN.same {u U : State} (e : u.vm = U.vm) (h : NN u) : NN U := ⟨fun q hq => va_Nw.same rfl e (h.1 q hq), fun q hq => va_Nw.same rfl e (h.2 q hq)⟩
abbrev tyL (cI cJ : ClassId) : List (ClassId × FieldType) := [(cI, .int), (cJ, .long)]
def Pw (D : va_G) (cI cJ : ClassId) (w : va_W) (sz : Nat) (U : State) : Prop := U.heap.size = sz ∧ va_P D vwCl w U.heap ∧ va_K D vwCl (tyL cI cJ) U ∧ NN U ∧ va_D (fun _ => True) w
theorem Pw.blind {D : va_G} {cI cJ : ClassId} {w : va_W} {sz : Nat} {av : List Value} : FrameBlind (va_Pc av (Pw D cI cJ w sz)) := fun a U g mk q => ⟨q.1, q.2.1, q.2.2.1, va_K.moved (u := U) (U := U.calling g mk a) (Vm.Alike.refl U.vm) q.2.2.2.1, NN.same (u := U) rfl q.2.2.2.2.1, q.2.2.2.2.2⟩
theorem fre {A : Nat → Prop} {w : va_W} {H0 H : Heap} {locs : List Loc} (hD : va_D A w) (hS : va_S A H0 H locs) (hA : ∀ q : Nat, H0.size ≤ q → A q) : ∀ q, va_A w H.size q → A q := by
  rintro q (⟨k, e, h⟩ | h)
  · exact hD.2 k (q, e) h
  · exact hA q (Nat.le_trans hS.1 h)
theorem D_map {A : Nat → Prop} {w w' : va_W} (hD : va_D A w) (h : w'.map Prod.fst = w.map Prod.fst) : va_D A w' := by
  have key : ∀ (i : Nat) (p : Nat × va_E), w'[i]? = some p → ∃ p', w[i]? = some p' ∧ p'.1 = p.1 := by
    intro i p hp
    have h1 : (w'.map Prod.fst)[i]? = some p.1 := by rw [List.getElem?_map, hp]; rfl
    rw [h, List.getElem?_map] at h1
    cases hw : w[i]? with
    | none => rw [hw] at h1; cases h1
    | some p' => rw [hw] at h1; exact ⟨p', rfl, Option.some.inj h1⟩
  refine ⟨fun i j p q hi hj e => ?_, fun k q hk => ?_⟩
  · obtain ⟨p', h1, e1⟩ := key i p hi
    obtain ⟨q', h2, e2⟩ := key j q hj
    exact hD.1 i j p' q' h1 h2 (by rw [e1, e2, e])
  · obtain ⟨p', h1, e1⟩ := key k q hk
    rw [← e1]
    exact hD.2 k p' h1
/-- a method as an equation: from the world w, with these arguments, it answers r and leaves the world w' -/
def Ci (l : Launch) (y : MethodName) (ws : List Cond) (rm : Room) (D : va_G) (cI cJ : ClassId) (av : List Value) (w : va_W) (r : Int32) (w' : va_W) : Prop :=
  ∀ sz : Nat, Met l y ws rm (va_Pc av (Pw D cI cJ w sz)) (va_Qi (fun x (_ : Unit) => x = r) (fun _ t => va_P D vwCl w' t.heap) (va_A w sz)) rm.cells rm.slots (va_A w sz)
def Cl (l : Launch) (y : MethodName) (ws : List Cond) (rm : Room) (D : va_G) (cI cJ : ClassId) (av : List Value) (w : va_W) (r : Int64) (w' : va_W) : Prop :=
  ∀ sz : Nat, Met l y ws rm (va_Pc av (Pw D cI cJ w sz)) (va_Ql (fun x (_ : Unit) => x = r) (fun _ t => va_P D vwCl w' t.heap) (va_A w sz)) rm.cells rm.slots (va_A w sz)
def Cv (l : Launch) (y : MethodName) (ws : List Cond) (rm : Room) (D : va_G) (cI cJ : ClassId) (av : List Value) (w : va_W) (w' : va_W) : Prop :=
  ∀ sz : Nat, Met l y ws rm (va_Pc av (Pw D cI cJ w sz)) (va_Qv (fun (_ : Unit) => True) (fun _ t => va_P D vwCl w' t.heap) (va_A w sz)) rm.cells rm.slots (va_A w sz)
/-- the body of a method whose end is Qc -/
def Bo (l : Launch) (y : MethodName) (ws : List Cond) (rm : Room) (cc : ByteArray) (maxL : Nat) (ret : Option FieldType) (D : va_G) (cI cJ : ClassId) (av : List Value) (w : va_W) (Qf : List Frame → State → (Nat → Prop) → State → Prop) : Prop :=
  ∀ (p : Program) (e : Env) (s : State) (m : MethodId) (below : List Frame) (meth : Method) (c : Code) (A : Nat → Prop) (ls : Array Slot), CallFix p m c cc maxL s av.toArray ws y.cls → meth.sig.returnType = ret → meth.locks = false → va_K D vwCl (tyL cI cJ) s → NN s → (∀ q : Nat, s.heap.size ≤ q → A q) → va_P D vwCl w s.heap → va_D A w → lv_has ls maxL (lv_args 0 av) → W p l e (headSpec ws rm).room s m av.toArray below meth c s.heap [] 0 0 (Qf below s A) (F0 m 0 ls [])
theorem Bo.met {l : Launch} {y : MethodName} {ws ws' : List Cond} {rm : Room} {cc : ByteArray} {maxL : Nat} {ret : Option FieldType} {D : va_G} {cI cJ : ClassId} {av : List Value} {w : va_W} {Qc : (Nat → Prop) → Array Value → State → Outcome → State → Prop} {mc ms : Nat} (hy : plainName y.cls = true) (hw : ws = Cond.code y cc maxL ret :: ws') (hlen : (lg_sl av).length ≤ maxL)
    (body : Bo l y ws rm cc maxL ret D cI cJ av w (fun below s A => MQ below (Qc A) av.toArray s mc ms A)) (sz : Nat) : Met l y ws rm (va_Pc av (Pw D cI cJ w sz)) (Qc (va_A w sz)) mc ms (va_A w sz) := by
  refine Met.ofW (cc := cc) (maxL := maxL) (ret := ret) hy hw ?_
  intro p e s m args below meth c s₁ B hml hv
  obtain ⟨rfl, hsz, hP, hK, hN, hD0⟩ := hv
  subst hsz
  have hl := lv_entry av (n := maxL) hlen
  rw [lg_entry_eq]
  exact body p e s m below meth c _ _ ⟨B.exec, B.bytes, hml, findClass_of_methodNamed B.named, atoms_spec B.pre⟩ B.returns B.notSynchronized hK hN (fun q h => Or.inr h) hP (hD0.self (sz := s.heap.size)) hl
section
variable {p : Program} {l : Launch} {e : Env} {R : Room} {s : State} {m : MethodId} {args : Array Value} {below : List Frame} {meth : Method} {c : Code} {H : Heap} {locs : List Loc} {cells slots : Nat} {Q : State → Prop}
variable {cc : ByteArray} {pc nL : Nat} {ls : Array Slot} {D : va_G} {A : Nat → Prop} {cI cJ : ClassId} {w w' w1 : va_W} {mc ms : Nat} {H0 : Heap} {Ts ws : List Cond} {own : String}
abbrev QI (below : List Frame) (D : va_G) (w' : va_W) (r : Int32) (args : Array Value) (s : State) (mc ms : Nat) (A : Nat → Prop) : State → Prop := MQ below (va_Qi (fun x (_ : Unit) => x = r) (fun _ t => va_P D vwCl w' t.heap) A) args s mc ms A
abbrev QL (below : List Frame) (D : va_G) (w' : va_W) (r : Int64) (args : Array Value) (s : State) (mc ms : Nat) (A : Nat → Prop) : State → Prop := MQ below (va_Ql (fun x (_ : Unit) => x = r) (fun _ t => va_P D vwCl w' t.heap) A) args s mc ms A
abbrev QV (below : List Frame) (D : va_G) (w' : va_W) (args : Array Value) (s : State) (mc ms : Nat) (A : Nat → Prop) : State → Prop := MQ below (va_Qv (fun (_ : Unit) => True) (fun _ t => va_P D vwCl w' t.heap) A) args s mc ms A
theorem eI {v r : Int32} (hx : p.tables.exec = Jvm.exec) (hb : c.code = cc) (hr : meth.sig.returnType = some .int) (hlk : meth.locks = false) (hP : va_P D vwCl w1 H) (hS : va_S A s.heap H locs) (hdg : decode cc pc = .ok (.ireturn, 1)) (hc : cells ≤ mc) (hs : slots ≤ ms) (ev : v = r) (ew : w1 = w') : W p l e R s m args below meth c H locs cells slots (QI below D w' r args s mc ms A) (F0 m pc ls [.int v]) := by
  subst ev; subst ew
  refine W.widen hc hs ?_
  exact W.iret hx hb hr (fun t ht hW => ⟨⟨v, (), rfl, rfl, by show va_P D vwCl w1 t.heap; rw [ht]; exact hP⟩, hS.F ht⟩) hS.2.2 hdg hlk
theorem eZ {v r : Int32} (hx : p.tables.exec = Jvm.exec) (hb : c.code = cc) (hr : meth.sig.returnType = some .boolean) (hn : narrow .boolean (.int v) = .int v) (hlk : meth.locks = false) (hP : va_P D vwCl w1 H) (hS : va_S A s.heap H locs) (hdg : decode cc pc = .ok (.ireturn, 1)) (hc : cells ≤ mc) (hs : slots ≤ ms) (ev : v = r) (ew : w1 = w') : W p l e R s m args below meth c H locs cells slots (QI below D w' r args s mc ms A) (F0 m pc ls [.int v]) := by
  subst ev; subst ew
  refine W.widen hc hs ?_
  exact W.zret hx hb hr hn (fun t ht hW => ⟨⟨v, (), rfl, rfl, by show va_P D vwCl w1 t.heap; rw [ht]; exact hP⟩, hS.F ht⟩) hS.2.2 hdg hlk
theorem eL {v r : Int64} (hx : p.tables.exec = Jvm.exec) (hb : c.code = cc) (hr : meth.sig.returnType = some .long) (hlk : meth.locks = false) (hP : va_P D vwCl w1 H) (hS : va_S A s.heap H locs) (hdg : decode cc pc = .ok (.lreturn, 1)) (hc : cells ≤ mc) (hs : slots ≤ ms) (ev : v = r) (ew : w1 = w') : W p l e R s m args below meth c H locs cells slots (QL below D w' r args s mc ms A) (F0 m pc ls [.long v]) := by
  subst ev; subst ew
  refine W.widen hc hs ?_
  exact W.lret hx hb hr (fun t ht hW => ⟨⟨v, (), rfl, rfl, by show va_P D vwCl w1 t.heap; rw [ht]; exact hP⟩, hS.F ht⟩) hS.2.2 hdg hlk
theorem eV (hx : p.tables.exec = Jvm.exec) (hb : c.code = cc) (hr : meth.sig.returnType = none) (hlk : meth.locks = false) (hP : va_P D vwCl w1 H) (hS : va_S A s.heap H locs) (hdg : decode cc pc = .ok (.return_, 1)) (hc : cells ≤ mc) (hs : slots ≤ ms) (ew : w1 = w') : W p l e R s m args below meth c H locs cells slots (QV below D w' args s mc ms A) (F0 m pc ls []) := by
  subst ew
  refine W.widen hc hs ?_
  exact W.vret hx hb hr (fun t ht hW => ⟨⟨(), rfl, trivial, by show va_P D vwCl w1 t.heap; rw [ht]; exact hP⟩, hS.F ht⟩) hS.2.2 hdg hlk
/-- a call of an instance method -/
theorem kVi {y : MethodName} {rm : Room} {C : String} {index : Nat} {bytes : ByteArray} {maxL n : Nat} {ret : Option FieldType} {b : Nat} {As rest st : List Value} {r : Int32} (B : CallFix p m c cc nL s args Ts own) (hK : va_K D vwCl (tyL cI cJ) s) (hN : NN s) (hP : va_P D vwCl w H) (hD : va_D A w) (hS : va_S A H0 H locs) (hA : ∀ q : Nat, H0.size ≤ q → A q)
    (hM : Ci l y ws rm D cI cJ (.ref b :: As) w r w') (cw : CallW R s args own C index y bytes maxL ret ws rm rm.cells rm.slots n) (ci q0 : Nat) {fs : List Value} {T : u_T} {N : Nat} (hci : vwCl[ci]? = some (C, T, N)) (he : w[q0]? = some (b, .inr (ci, fs))) (hn : As.length = n) (hl : ls.size = nL) (hst : st = As.reverse ++ .ref b :: rest) (h8 : (rest.map fun v => v.category).sum ≤ 8) (hdg : decode cc pc = .ok (.invokevirtual index, 3)) (hcs : cells + rm.cells ≤ R.cells ∧ slots + rm.slots ≤ R.slots) (ha : w'.map Prod.fst = w.map Prod.fst)
    (k : ∀ (H1 : Heap) (locs1 : List Loc), va_P D vwCl w' H1 → va_D A w' → va_S A H0 H1 locs1 → W p l e R s m args below meth c H1 locs1 (cells + rm.cells) (slots + rm.slots) Q (F0 m (pc + 3) ls (.int r :: rest))) : W p l e R s m args below meth c H locs cells slots Q (F0 m pc ls st) :=
  va_calli (va_runV (As := As) (rest := rest) B (hM H.size) cw ⟨Pw.blind, va_recv hK hP hci he, fun U hU hW => ⟨rfl, by rw [hU], by rw [hU]; exact hP, va_K.moved hW.alike hK, NN.warm hW hN, hD.weaken (fun _ _ _ _ => trivial)⟩⟩ rfl hn hl hst (lv_room h8) hdg hcs) hS (fun q _ h => fre hD hS hA q h) (fre hD hS hA) (fun x u t H1 locs1 ht hvm hw hB hz1 hk1 hS1 => by
    have hw : x = r := hw
    subst hw
    exact k H1 locs1 (ht ▸ hB) (D_map hD ha) hS1)
theorem kVv {y : MethodName} {rm : Room} {C : String} {index : Nat} {bytes : ByteArray} {maxL n : Nat} {ret : Option FieldType} {b : Nat} {As rest st : List Value} (B : CallFix p m c cc nL s args Ts own) (hK : va_K D vwCl (tyL cI cJ) s) (hN : NN s) (hP : va_P D vwCl w H) (hD : va_D A w) (hS : va_S A H0 H locs) (hA : ∀ q : Nat, H0.size ≤ q → A q)
    (hM : Cv l y ws rm D cI cJ (.ref b :: As) w w') (cw : CallW R s args own C index y bytes maxL ret ws rm rm.cells rm.slots n) (ci q0 : Nat) {fs : List Value} {T : u_T} {N : Nat} (hci : vwCl[ci]? = some (C, T, N)) (he : w[q0]? = some (b, .inr (ci, fs))) (hn : As.length = n) (hl : ls.size = nL) (hst : st = As.reverse ++ .ref b :: rest) (h8 : (rest.map fun v => v.category).sum ≤ 8) (hdg : decode cc pc = .ok (.invokevirtual index, 3)) (hcs : cells + rm.cells ≤ R.cells ∧ slots + rm.slots ≤ R.slots) (ha : w'.map Prod.fst = w.map Prod.fst)
    (k : ∀ (H1 : Heap) (locs1 : List Loc), va_P D vwCl w' H1 → va_D A w' → va_S A H0 H1 locs1 → W p l e R s m args below meth c H1 locs1 (cells + rm.cells) (slots + rm.slots) Q (F0 m (pc + 3) ls rest)) : W p l e R s m args below meth c H locs cells slots Q (F0 m pc ls st) :=
  va_callv (va_runV (As := As) (rest := rest) B (hM H.size) cw ⟨Pw.blind, va_recv hK hP hci he, fun U hU hW => ⟨rfl, by rw [hU], by rw [hU]; exact hP, va_K.moved hW.alike hK, NN.warm hW hN, hD.weaken (fun _ _ _ _ => trivial)⟩⟩ rfl hn hl hst (lv_room h8) hdg hcs) hS (fun q _ h => fre hD hS hA q h) (fre hD hS hA) (fun u t H1 locs1 ht hvm hw hB hz1 hk1 hS1 => k H1 locs1 (ht ▸ hB) (D_map hD ha) hS1)
theorem kVl {y : MethodName} {rm : Room} {C : String} {index : Nat} {bytes : ByteArray} {maxL n : Nat} {ret : Option FieldType} {b : Nat} {As rest st : List Value} {r : Int64} (B : CallFix p m c cc nL s args Ts own) (hK : va_K D vwCl (tyL cI cJ) s) (hN : NN s) (hP : va_P D vwCl w H) (hD : va_D A w) (hS : va_S A H0 H locs) (hA : ∀ q : Nat, H0.size ≤ q → A q)
    (hM : Cl l y ws rm D cI cJ (.ref b :: As) w r w') (cw : CallW R s args own C index y bytes maxL ret ws rm rm.cells rm.slots n) (ci q0 : Nat) {fs : List Value} {T : u_T} {N : Nat} (hci : vwCl[ci]? = some (C, T, N)) (he : w[q0]? = some (b, .inr (ci, fs))) (hn : As.length = n) (hl : ls.size = nL) (hst : st = As.reverse ++ .ref b :: rest) (h8 : (rest.map fun v => v.category).sum ≤ 8) (hdg : decode cc pc = .ok (.invokevirtual index, 3)) (hcs : cells + rm.cells ≤ R.cells ∧ slots + rm.slots ≤ R.slots) (ha : w'.map Prod.fst = w.map Prod.fst)
    (k : ∀ (H1 : Heap) (locs1 : List Loc), va_P D vwCl w' H1 → va_D A w' → va_S A H0 H1 locs1 → W p l e R s m args below meth c H1 locs1 (cells + rm.cells) (slots + rm.slots) Q (F0 m (pc + 3) ls (.long r :: rest))) : W p l e R s m args below meth c H locs cells slots Q (F0 m pc ls st) :=
  va_calll (va_runV (As := As) (rest := rest) B (hM H.size) cw ⟨Pw.blind, va_recv hK hP hci he, fun U hU hW => ⟨rfl, by rw [hU], by rw [hU]; exact hP, va_K.moved hW.alike hK, NN.warm hW hN, hD.weaken (fun _ _ _ _ => trivial)⟩⟩ rfl hn hl hst (lv_room h8) hdg hcs) hS (fun q _ h => fre hD hS hA q h) (fre hD hS hA) (fun x u t H1 locs1 ht hvm hw hB hz1 hk1 hS1 => by
    have hw : x = r := hw
    subst hw
    exact k H1 locs1 (ht ▸ hB) (D_map hD ha) hS1)
/-- a call of a static method -/
theorem kSi {y : MethodName} {rm : Room} {index : Nat} {bytes : ByteArray} {maxL n : Nat} {ret : Option FieldType} {As rest st : List Value} {r : Int32} (B : CallFix p m c cc nL s args Ts own) (hK : va_K D vwCl (tyL cI cJ) s) (hN : NN s) (hP : va_P D vwCl w H) (hD : va_D A w) (hS : va_S A H0 H locs) (hA : ∀ q : Nat, H0.size ≤ q → A q)
    (hM : Ci l y ws rm D cI cJ As w r w') (cw : CallB R s args own index y bytes maxL ret ws rm rm.cells rm.slots n ∧ (Cond.static y).before args s = true) (hn : As.length = n) (hl : ls.size = nL) (hst : st = As.reverse ++ rest) (h8 : (rest.map fun v => v.category).sum ≤ 8) (hdg : decode cc pc = .ok (.invokestatic index, 3)) (hcs : cells + rm.cells ≤ R.cells ∧ slots + rm.slots ≤ R.slots) (ha : w'.map Prod.fst = w.map Prod.fst)
    (k : ∀ (H1 : Heap) (locs1 : List Loc), va_P D vwCl w' H1 → va_D A w' → va_S A H0 H1 locs1 → W p l e R s m args below meth c H1 locs1 (cells + rm.cells) (slots + rm.slots) Q (F0 m (pc + 3) ls (.int r :: rest))) : W p l e R s m args below meth c H locs cells slots Q (F0 m pc ls st) :=
  va_calli (va_runS (As := As) (rest := rest) B (hM H.size) cw ⟨Pw.blind, fun U hU hW => ⟨rfl, by rw [hU], by rw [hU]; exact hP, va_K.moved hW.alike hK, NN.warm hW hN, hD.weaken (fun _ _ _ _ => trivial)⟩⟩ rfl hn hl hst (lv_room h8) hdg hcs) hS (fun q _ h => fre hD hS hA q h) (fre hD hS hA) (fun x u t H1 locs1 ht hvm hw hB hz1 hk1 hS1 => by
    have hw : x = r := hw
    subst hw
    exact k H1 locs1 (ht ▸ hB) (D_map hD ha) hS1)
theorem kSv {y : MethodName} {rm : Room} {index : Nat} {bytes : ByteArray} {maxL n : Nat} {ret : Option FieldType} {As rest st : List Value} (B : CallFix p m c cc nL s args Ts own) (hK : va_K D vwCl (tyL cI cJ) s) (hN : NN s) (hP : va_P D vwCl w H) (hD : va_D A w) (hS : va_S A H0 H locs) (hA : ∀ q : Nat, H0.size ≤ q → A q)
    (hM : Cv l y ws rm D cI cJ As w w') (cw : CallB R s args own index y bytes maxL ret ws rm rm.cells rm.slots n ∧ (Cond.static y).before args s = true) (hn : As.length = n) (hl : ls.size = nL) (hst : st = As.reverse ++ rest) (h8 : (rest.map fun v => v.category).sum ≤ 8) (hdg : decode cc pc = .ok (.invokestatic index, 3)) (hcs : cells + rm.cells ≤ R.cells ∧ slots + rm.slots ≤ R.slots) (ha : w'.map Prod.fst = w.map Prod.fst)
    (k : ∀ (H1 : Heap) (locs1 : List Loc), va_P D vwCl w' H1 → va_D A w' → va_S A H0 H1 locs1 → W p l e R s m args below meth c H1 locs1 (cells + rm.cells) (slots + rm.slots) Q (F0 m (pc + 3) ls rest)) : W p l e R s m args below meth c H locs cells slots Q (F0 m pc ls st) :=
  va_callv (va_runS (As := As) (rest := rest) B (hM H.size) cw ⟨Pw.blind, fun U hU hW => ⟨rfl, by rw [hU], by rw [hU]; exact hP, va_K.moved hW.alike hK, NN.warm hW hN, hD.weaken (fun _ _ _ _ => trivial)⟩⟩ rfl hn hl hst (lv_room h8) hdg hcs) hS (fun q _ h => fre hD hS hA q h) (fre hD hS hA) (fun u t H1 locs1 ht hvm hw hB hz1 hk1 hS1 => k H1 locs1 (ht ▸ hB) (D_map hD ha) hS1)
end
/-! loops as functions with fuel: a step goes on (inl), ends (inr), or is stuck (none) -/
def lp {σ ρ : Type} (f : σ → Option (σ ⊕ ρ)) : Nat → σ → Option ρ
  | 0, _ => none
  | n + 1, s => match f s with
    | none => none
    | some (.inl s') => lp f n s'
    | some (.inr r) => some r
theorem lp_walk {σ ρ : Type} {f : σ → Option (σ ⊕ ρ)} {n : Nat} {s : σ} {r : ρ} (h : lp f (n + 1) s = some r) : ∃ z, f s = some z ∧ ((∃ s', z = .inl s' ∧ lp f n s' = some r) ∨ z = .inr r) := by
  simp only [lp] at h
  cases hf : f s with
  | none => rw [hf] at h; cases h
  | some z =>
    rw [hf] at h
    refine ⟨z, rfl, ?_⟩
    cases z with
    | inl s' => exact Or.inl ⟨s', rfl, h⟩
    | inr r' => exact Or.inr (by rw [Option.some.inj h])
theorem lp_0 {σ ρ : Type} {f : σ → Option (σ ⊕ ρ)} {s : σ} {r : ρ} (h : lp f 0 s = some r) : False := by cases h
theorem lp_inl {σ ρ : Type} {f : σ → Option (σ ⊕ ρ)} {n : Nat} {s s' : σ} (h : f s = some (.inl s')) : lp f (n + 1) s = lp f n s' := by simp only [lp, h]
theorem lp_inr {σ ρ : Type} {f : σ → Option (σ ⊕ ρ)} {n : Nat} {s : σ} {r : ρ} (h : f s = some (.inr r)) : lp f (n + 1) s = some r := by simp only [lp, h]
/-- an access that must lie inside, a divisor that must not be 0: stuck else -/
noncomputable def gd {α : Type} (c : Prop) (x : Option α) : Option α := @ite _ c (Classical.propDecidable c) x none
theorem gd_I {α : Type} {c : Prop} {x : Option α} {z : α} (h : gd c x = some z) : c ∧ x = some z := by
  unfold gd at h
  by_cases hc : c
  · rw [if_pos hc] at h; exact ⟨hc, h⟩
  · rw [if_neg hc] at h; cases h
theorem gd_T {α : Type} {c : Prop} {x : Option α} (hc : c) : gd c x = x := by unfold gd; rw [if_pos hc]
/-- a named value -/
def lt_ {α β : Type} (x : α) (k : α → β) : β := k x
theorem lt_I {α β : Type} {x : α} {k : α → β} {z : β} (h : lt_ x k = z) : ∃ y, y = x ∧ k y = z := ⟨x, rfl, h⟩
def b2 {α β δ : Type} (o : Option (α × β)) (k : α → β → Option δ) : Option δ := o.bind fun q => k q.1 q.2
def b3 {α β γ δ : Type} (o : Option (α × β × γ)) (k : α → β → γ → Option δ) : Option δ := o.bind fun q => k q.1 q.2.1 q.2.2
def b4 {α β γ ε δ : Type} (o : Option (α × β × γ × ε)) (k : α → β → γ → ε → Option δ) : Option δ := o.bind fun q => k q.1 q.2.1 q.2.2.1 q.2.2.2
def b5 {α β γ ε ζ δ : Type} (o : Option (α × β × γ × ε × ζ)) (k : α → β → γ → ε → ζ → Option δ) : Option δ := o.bind fun q => k q.1 q.2.1 q.2.2.1 q.2.2.2.1 q.2.2.2.2
theorem b2_I {α β δ : Type} {o : Option (α × β)} {k : α → β → Option δ} {z : δ} (h : b2 o k = some z) : ∃ a b, o = some (a, b) ∧ k a b = some z := by
  cases o with
  | none => cases h
  | some x => exact ⟨x.1, x.2, rfl, h⟩
theorem b3_I {α β γ δ : Type} {o : Option (α × β × γ)} {k : α → β → γ → Option δ} {z : δ} (h : b3 o k = some z) : ∃ a b c, o = some (a, b, c) ∧ k a b c = some z := by
  cases o with
  | none => cases h
  | some x => exact ⟨x.1, x.2.1, x.2.2, rfl, h⟩
theorem b4_I {α β γ ε δ : Type} {o : Option (α × β × γ × ε)} {k : α → β → γ → ε → Option δ} {z : δ} (h : b4 o k = some z) : ∃ a b c d, o = some (a, b, c, d) ∧ k a b c d = some z := by
  cases o with
  | none => cases h
  | some x => exact ⟨x.1, x.2.1, x.2.2.1, x.2.2.2, rfl, h⟩
theorem b5_I {α β γ ε ζ δ : Type} {o : Option (α × β × γ × ε × ζ)} {k : α → β → γ → ε → ζ → Option δ} {z : δ} (h : b5 o k = some z) : ∃ a b c d e, o = some (a, b, c, d, e) ∧ k a b c d e = some z := by
  cases o with
  | none => cases h
  | some x => exact ⟨x.1, x.2.1, x.2.2.1, x.2.2.2.1, x.2.2.2.2, rfl, h⟩
/-- rows by number, one changed -/
def uG (G : Nat → Nat → Int32) (k : Nat) (f : Nat → Int32) : Nat → Nat → Int32 := fun j => if j = k then f else G j
def uS (g : Nat → Int32) (k : Nat) (v : Int32) : Nat → Int32 := fun j => if j = k then v else g j
theorem bd_I {α β : Type} {o : Option α} {k : α → Option β} {z : β} (h : o.bind k = some z) : ∃ x, o = some x ∧ k x = some z := by
  cases o with
  | none => cases h
  | some x => exact ⟨x, rfl, h⟩
theorem ip_ {α : Sort _} {c : Prop} {d : Decidable c} {x y z : α} (h : (@ite _ c d x y) = z) (hc : c) : x = z := by rw [if_pos hc] at h; exact h
theorem in_ {α : Sort _} {c : Prop} {d : Decidable c} {x y z : α} (h : (@ite _ c d x y) = z) (hc : ¬ c) : y = z := by rw [if_neg hc] at h; exact h
/-! the rows of the class: an index outside is 0, and puts nothing -/
def rAt (n : Nat) (f : Nat → Int32) (i : Int32) : Int32 := if i < 0 then 0 else if nI n ≤ i then 0 else f i.toNatClampNeg
def rPut (n : Nat) (f : Nat → Int32) (i x : Int32) : Nat → Int32 := if i < 0 then f else if nI n ≤ i then f else upd f i.toNatClampNeg x
def rAdd (n : Nat) (f : Nat → Int32) (i x : Int32) : Nat → Int32 := if i < 0 then f else if nI n ≤ i then f else upd f i.toNatClampNeg (f i.toNatClampNeg + x)
theorem r_in {n : Nat} {i : Int32} (hn : n < 2 ^ 31) (h1 : ¬ i < 0) (h2 : ¬ nI n ≤ i) : vp_in i n := by
  rcases pk_ix i hn with h | h | ⟨j, hj, rfl⟩
  · exact absurd h h1
  · exact absurd h h2
  · exact vp_in_nI hj hn

/-! starts, by the kind of the answer -/
theorem Ci.mk {l : Launch} {y : MethodName} {ws ws' : List Cond} {rm : Room} {cc : ByteArray} {maxL : Nat} {ret : Option FieldType} {D : va_G} {cI cJ : ClassId} {av : List Value} {w w' : va_W} {r : Int32} (hy : plainName y.cls = true) (hw : ws = Cond.code y cc maxL ret :: ws') (hlen : (lg_sl av).length ≤ maxL)
    (body : Bo l y ws rm cc maxL ret D cI cJ av w (fun below s A => QI below D w' r av.toArray s rm.cells rm.slots A)) : Ci l y ws rm D cI cJ av w r w' := fun sz => Bo.met (Qc := fun A => va_Qi (fun x (_ : Unit) => x = r) (fun _ t => va_P D vwCl w' t.heap) A) hy hw hlen body sz
theorem Cl.mk {l : Launch} {y : MethodName} {ws ws' : List Cond} {rm : Room} {cc : ByteArray} {maxL : Nat} {ret : Option FieldType} {D : va_G} {cI cJ : ClassId} {av : List Value} {w w' : va_W} {r : Int64} (hy : plainName y.cls = true) (hw : ws = Cond.code y cc maxL ret :: ws') (hlen : (lg_sl av).length ≤ maxL)
    (body : Bo l y ws rm cc maxL ret D cI cJ av w (fun below s A => QL below D w' r av.toArray s rm.cells rm.slots A)) : Cl l y ws rm D cI cJ av w r w' := fun sz => Bo.met (Qc := fun A => va_Ql (fun x (_ : Unit) => x = r) (fun _ t => va_P D vwCl w' t.heap) A) hy hw hlen body sz
theorem Cv.mk {l : Launch} {y : MethodName} {ws ws' : List Cond} {rm : Room} {cc : ByteArray} {maxL : Nat} {ret : Option FieldType} {D : va_G} {cI cJ : ClassId} {av : List Value} {w w' : va_W} (hy : plainName y.cls = true) (hw : ws = Cond.code y cc maxL ret :: ws') (hlen : (lg_sl av).length ≤ maxL)
    (body : Bo l y ws rm cc maxL ret D cI cJ av w (fun below s A => QV below D w' av.toArray s rm.cells rm.slots A)) : Cv l y ws rm D cI cJ av w w' := fun sz => Bo.met (Qc := fun A => va_Qv (fun (_ : Unit) => True) (fun _ t => va_P D vwCl w' t.heap) A) hy hw hlen body sz
