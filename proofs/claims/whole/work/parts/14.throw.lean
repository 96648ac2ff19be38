/-! methods that throw: what a throw needs (TX), a contract with an outcome (Cx), its ends, its call by a method with handlers (Ch) -/
def strL : List (Nat × String) := [(34, "value is not 1 to 50"), (39, "weight is not 1 to 9"), (53, "there are 6 lands"), (62, "weekday is not 0 to 6"), (65, "many is not 0 to 9"), (82, "there is no such land"), (84, "kind is not 0 to 3"), (93, "there are 24 wishes"), (105, "there is no such wish"), (110, "the wish does not wait"), (115, "layer is not 0 to 4"), (117, "many is not 1 to 20"), (128, "what is not 0 to 4"), (144, "what is not 0 to 10"), (148, "days is not 1 to 100"), (159, "what is not 0 to 2"), (178, "pence is not 1 to 300")]
def exL : List String := ["java/lang/IllegalArgumentException", "java/lang/IllegalStateException", "java/lang/IndexOutOfBoundsException"]
def ncL : List (String × String) := [("java/lang/IllegalStateException", "java/lang/IllegalArgumentException"), ("java/lang/IndexOutOfBoundsException", "java/lang/IllegalArgumentException"), ("java/lang/IllegalArgumentException", "java/lang/IllegalStateException"), ("java/lang/IndexOutOfBoundsException", "java/lang/IllegalStateException"), ("java/lang/IllegalArgumentException", "java/lang/IndexOutOfBoundsException"), ("java/lang/IllegalStateException", "java/lang/IndexOutOfBoundsException")]
def dcL : List MethodName := [Bundle.initS "java/lang/RuntimeException", Bundle.initS "java/lang/Exception", Bundle.initS Bundle.tN]
/-- what a throw needs -/
def TX (A : Nat → Prop) (U : State) : Prop := vx_Zq Bundle.tN "UNASSIGNED_STACK" Bundle.steD A U U.heap ∧ vx_Zq Bundle.tN "SUPPRESSED_SENTINEL" Bundle.listD A U U.heap ∧ (∀ q ∈ strL, ∃ sa, vk_R RX5 q.1 q.2 sa U) ∧ (∀ E ∈ exL, va_Nw (.castable E E) U) ∧ (∀ q ∈ ncL, va_Nc q.1 q.2 U) ∧ (∀ y ∈ dcL, va_Nw (.declares y) U)
theorem TX.call {A A1 : Nat → Prop} {s U : State} {H : Heap} {locs : List Loc} (h : TX A s) (hS : va_S A s.heap H locs) (hA : ∀ q : Nat, A1 q → A q) (hU : U.heap = H) (hW : s.WarmedH U.vm) : TX A1 U := by
  obtain ⟨h1, h2, h3, h4, h5, h6⟩ := h
  refine ⟨?_, ?_, fun q hq => ?_, fun E hE => va_Nw.warmC hW (h4 E hE), fun q hq => va_Nc.moved hW.alike (h5 q hq), fun y hy => va_Nw.warmD hW (h6 y hy)⟩
  · rw [hU]; exact vx_Zq.moved hW.alike ((h1.kept hS.2.1).narrow hA)
  · rw [hU]; exact vx_Zq.moved hW.alike ((h2.kept hS.2.1).narrow hA)
  · obtain ⟨sa, hs⟩ := h3 q hq
    exact ⟨sa, vk_R.warm hW hs⟩
theorem TX.same {A : Nat → Prop} {u U : State} (e : u.vm = U.vm) (eh : u.heap = U.heap) (h : TX A u) : TX A U := by
  obtain ⟨h1, h2, h3, h4, h5, h6⟩ := h
  have hal : u.vm.Alike U.vm := by rw [e]; exact Vm.Alike.refl _
  refine ⟨?_, ?_, fun q hq => ?_, fun E hE => va_Nw.same rfl e (h4 E hE), fun q hq => va_Nc.moved hal (h5 q hq), fun y hy => va_Nw.same rfl e (h6 y hy)⟩
  · rw [← eh]; exact vx_Zq.moved hal h1
  · rw [← eh]; exact vx_Zq.moved hal h2
  · obtain ⟨sa, hs⟩ := h3 q hq
    exact ⟨sa, vk_R.same e.symm hs⟩
def Px (D : va_G) (cI cJ : ClassId) (w : va_W) (sz : Nat) (U : State) : Prop := Pw D cI cJ w sz U ∧ TX (va_A w sz) U
theorem Px.blind {D : va_G} {cI cJ : ClassId} {w : va_W} {sz : Nat} {av : List Value} : FrameBlind (va_Pc av (Px D cI cJ w sz)) := fun a U g mk q => ⟨q.1, (Pw.blind (av := av) a U g mk ⟨q.1, q.2.1⟩).2, TX.same (u := U) rfl rfl q.2.2⟩
abbrev XO : Type := String ⊕ (Int32 × va_W)
/-- a method that returns or throws: the outcome is o -/
def Cx (l : Launch) (y : MethodName) (ws : List Cond) (rm : Room) (D : va_G) (cI cJ : ClassId) (av : List Value) (w : va_W) (o : XO) : Prop :=
  ∀ sz : Nat, vx_Met l y ws rm (va_Pc av (Px D cI cJ w sz)) (va_Qi (fun x (W' : va_W) => o = .inr (x, W')) (fun W' t => va_P D vwCl W' t.heap) (va_A w sz)) (vx_X (fun (_ : Unit) => True) (fun E _ t => o = .inl E ∧ va_P D vwCl w t.heap) (va_A w sz)) rm.cells rm.slots (va_A w sz)
/-- the body of one that throws, without handlers -/
def BoX (l : Launch) (y : MethodName) (ws : List Cond) (rm : Room) (cc : ByteArray) (maxL : Nat) (ret : Option FieldType) (D : va_G) (cI cJ : ClassId) (av : List Value) (w : va_W) (Qf : List Frame → State → (Nat → Prop) → State → Prop) : Prop :=
  ∀ (p : Program) (e : Env) (s : State) (m : MethodId) (below : List Frame) (meth : Method) (c : Code) (A : Nat → Prop) (ls : Array Slot), CallFix p m c cc maxL s av.toArray ws y.cls → meth.sig.returnType = ret → meth.locks = false → (∀ x ∈ c.exceptionTable.toList, False) → TX A s → va_K D vwCl (tyL cI cJ) s → NN s → (∀ q : Nat, s.heap.size ≤ q → A q) → va_P D vwCl w s.heap → va_D A w → lv_has ls maxL (lv_args 0 av) → W p l e (headSpec ws rm).room s m av.toArray below meth c s.heap [] 0 0 (Qf below s A) (F0 m 0 ls [])
abbrev QX (below : List Frame) (D : va_G) (w : va_W) (o : XO) (args : Array Value) (s : State) (mc ms : Nat) (A : Nat → Prop) : State → Prop := vx_MQ below (va_Qi (fun x (W' : va_W) => o = .inr (x, W')) (fun W' t => va_P D vwCl W' t.heap) A) (vx_X (fun (_ : Unit) => True) (fun E _ t => o = .inl E ∧ va_P D vwCl w t.heap) A) args s mc ms A
theorem Cx.mk {l : Launch} {y : MethodName} {ws ws' : List Cond} {rm : Room} {cc : ByteArray} {maxL : Nat} {ret : Option FieldType} {D : va_G} {cI cJ : ClassId} {av : List Value} {w : va_W} {o : XO} (hy : plainName y.cls = true) (hw : ws = Cond.code y cc maxL ret :: ws') (hlen : (lg_sl av).length ≤ maxL)
    (body : BoX l y ws rm cc maxL ret D cI cJ av w (fun below s A => QX below D w o av.toArray s rm.cells rm.slots A)) : Cx l y ws rm D cI cJ av w o := by
  intro sz
  refine vx_ofW (cc := cc) (maxL := maxL) (ret := ret) hy hw ?_
  intro p e s m args below meth c s₁ B hml ht hv
  obtain ⟨rfl, ⟨hsz, hP, hK, hN, hD0⟩, hT⟩ := hv
  subst hsz
  have hl := lv_entry av (n := maxL) hlen
  rw [lg_entry_eq]
  exact body p e s m below meth c _ _ ⟨B.exec, B.bytes, hml, findClass_of_methodNamed B.named, atoms_spec B.pre⟩ B.returns B.notSynchronized ht hT hK hN (fun q h => Or.inr h) hP (hD0.self (sz := s.heap.size)) hl
section
variable {p : Program} {l : Launch} {e : Env} {R : Room} {s : State} {m : MethodId} {args : Array Value} {below : List Frame} {meth : Method} {c : Code} {H : Heap} {locs : List Loc} {cells slots : Nat} {Q : State → Prop}
variable {cc : ByteArray} {pc nL : Nat} {ls : Array Slot} {D : va_G} {A : Nat → Prop} {cI cJ : ClassId} {w w' w1 : va_W} {mc ms : Nat} {H0 : Heap} {Ts ws : List Cond} {own : String} {o : XO}
theorem eX {v : Int32} (hx : p.tables.exec = Jvm.exec) (hb : c.code = cc) (hr : meth.sig.returnType = some .int) (hlk : meth.locks = false) (hP : va_P D vwCl w1 H) (hS : va_S A s.heap H locs) (hdg : decode cc pc = .ok (.ireturn, 1)) (hc : cells ≤ mc) (hs : slots ≤ ms) (eo : o = .inr (v, w1)) : W p l e R s m args below meth c H locs cells slots (QX below D w o args s mc ms A) (F0 m pc ls [.int v]) := by
  refine vx_ret (W.widen hc hs ?_)
  exact W.iret hx hb hr (fun t ht hW => ⟨⟨v, w1, rfl, eo, by show va_P D vwCl w1 t.heap; rw [ht]; exact hP⟩, hS.F ht⟩) hS.2.2 hdg hlk
/-- throw new E("..") in WishWell itself -/
theorem eT {cls text : String} {ik is ic : Nat} (hx : p.tables.exec = Jvm.exec) (hb : c.code = cc) (hfl : l.stackTraces = false) (hlk : meth.locks = false) (htb : ∀ x ∈ c.exceptionTable.toList, False) (hT : TX A s) (hown : s.vm.findClass RX5 = some m.cls) (hP : va_P D vwCl w H) (hS : va_S A s.heap H locs) (hl : ls.size = c.maxLocals)
    (hk : (Cond.classLink RX5 ik cls).before args s = true) (hini : (Cond.initialized cls).before args s = true) (hstr : (is, text) ∈ strL) (hE : cls ∈ exL) (hgw : ∀ w ∈ (vx_atS RX5 ic cls ["java/lang/RuntimeException", "java/lang/Exception"]).filter goodWord, w.before args s = true)
    (hng : ∀ w ∈ (vx_atS RX5 ic cls ["java/lang/RuntimeException", "java/lang/Exception"]).filter (fun w => !goodWord w), w ∈ ([.castable cls cls, .declares (Bundle.initS "java/lang/RuntimeException"), .declares (Bundle.initS "java/lang/Exception"), .declares (Bundle.initS Bundle.tN)] : List Cond)) (hgood : ∀ w ∈ Cond.classLink RX5 ik cls :: Cond.initialized cls :: vx_atS RX5 ic cls ["java/lang/RuntimeException", "java/lang/Exception"], vx_ot w = true) (hfit : Bundle.fit cls = true)
    (d0 : decode cc pc = .ok (.new ik, 3)) (d3 : decode cc (pc + 3) = .ok (.dup, 1)) (d4 : decode cc (pc + 4) = .ok (.ldc is, 2)) (d6 : decode cc (pc + 6) = .ok (.invokespecial ic, 3)) (d9 : decode cc (pc + 9) = .ok (.athrow, 1))
    (hRf : 5 < R.frames) (hRl : 82 ≤ R.locals) (hRc : cells + 1 ≤ R.cells) (hRs : slots + 6 ≤ R.slots) (hc : cells + 1 ≤ mc) (hs : slots + 6 ≤ ms) (eo : o = .inl cls) : W p l e R s m args below meth c H locs cells slots (QX below D w o args s mc ms A) (F0 m pc ls []) := by
  obtain ⟨h1, h2, h3, h4, -, h6⟩ := hT
  obtain ⟨sa, hsa⟩ := h3 (is, text) hstr
  refine vx_throwS (own := RX5) (cls := cls) (text := text) (names := ["java/lang/RuntimeException", "java/lang/Exception"]) (ik := ik) (is := is) (ic := ic) (sa := sa) (A := A) hx hb hfl hown hfit (by decide) hk hini hsa (vx_hat hgw hng (vx_c (va_Nw.use rfl (h4 cls hE)) (vx_c (va_Nw.use rfl (h6 _ (List.mem_of_getElem? (i := 0) rfl))) (vx_c (va_Nw.use rfl (h6 _ (List.mem_of_getElem? (i := 1) rfl))) (vx_c (va_Nw.use rfl (h6 _ (List.mem_of_getElem? (i := 2) rfl))) vx_n))))) hgood h1 h2 hS hl d0 d3 d4 d6 d9 (fun x hx => (htb x hx).elim) hRf hRl hRc hRs hlk (fun t hal hsz hk => ⟨(), trivial, ⟨eo, ?_⟩, ⟨Nat.le_trans hS.1 hsz, fun q hq hn => (hk q (Nat.lt_of_lt_of_le hq hS.1)).trans (hS.2.1 q hq hn)⟩⟩) hS.2.2 hc hs
  exact hP.kept fun k x hx => hk x.1 ((hP k x hx).lt)
end
