/-! the law's helpers: a call of the class, caught and numbered -/
def Ch (l : Launch) (y : MethodName) (ws : List Cond) (rm : Room) (D : va_G) (cI cJ : ClassId) (av : List Value) (w : va_W) (r : Int32) (w' : va_W) : Prop :=
  ∀ sz : Nat, vx_Met l y ws rm (va_Pc av (Px D cI cJ w sz)) (va_Qi (fun x (_ : Unit) => x = r) (fun _ t => va_P D vwCl w' t.heap) (va_A w sz)) (vx_X (fun (_ : Unit) => False) (fun _ _ _ => True) (va_A w sz)) rm.cells rm.slots (va_A w sz)
abbrev QH (below : List Frame) (D : va_G) (w' : va_W) (r : Int32) (args : Array Value) (s : State) (mc ms : Nat) (A : Nat → Prop) : State → Prop := vx_MQ below (va_Qi (fun x (_ : Unit) => x = r) (fun _ t => va_P D vwCl w' t.heap) A) (vx_X (fun (_ : Unit) => False) (fun _ _ _ => True) A) args s mc ms A
theorem Ch.mk {l : Launch} {y : MethodName} {ws ws' : List Cond} {rm : Room} {cc : ByteArray} {maxL : Nat} {ret : Option FieldType} {hh : List (Nat × Nat × Nat × Nat)} {D : va_G} {cI cJ : ClassId} {av : List Value} {w w' : va_W} {r : Int32} (hy : plainName y.cls = true) (hw : ws = Cond.codeWith y cc maxL ret hh :: ws') (hlen : (lg_sl av).length ≤ maxL)
    (body : ∀ (p : Program) (e : Env) (s : State) (m : MethodId) (below : List Frame) (meth : Method) (c : Code) (A : Nat → Prop) (ls : Array Slot), CallFix p m c cc maxL s av.toArray ws y.cls → meth.sig.returnType = ret → meth.locks = false → c.exceptionTable.toList = tableOf hh → TX A s → va_K D vwCl (tyL cI cJ) s → NN s → (∀ q : Nat, s.heap.size ≤ q → A q) → va_P D vwCl w s.heap → va_D A w → lv_has ls maxL (lv_args 0 av) → W p l e (headSpec ws rm).room s m av.toArray below meth c s.heap [] 0 0 (QH below D w' r av.toArray s rm.cells rm.slots A) (F0 m 0 ls [])) : Ch l y ws rm D cI cJ av w r w' := by
  intro sz
  refine vx_ofWH (cc := cc) (maxL := maxL) (ret := ret) (hh := hh) hy hw ?_
  intro p e s m args below meth c s₁ B hml hv
  obtain ⟨rfl, ⟨hsz, hP, hK, hN, hD0⟩, hT⟩ := hv
  subst hsz
  have hl := lv_entry av (n := maxL) hlen
  rw [lg_entry_eq]
  have hts := atoms_spec (ws := ws) B.pre
  have htab := vx_table (x := y) B (hts _ (by rw [hw]; exact List.mem_cons_self))
  exact body p e s m below meth c _ _ ⟨B.exec, B.bytes, hml, findClass_of_methodNamed B.named, hts⟩ B.returns B.notSynchronized htab hT hK hN (fun q h => Or.inr h) hP (hD0.self (sz := s.heap.size)) hl
section
variable {p : Program} {l : Launch} {e : Env} {R : Room} {s : State} {m : MethodId} {args : Array Value} {below : List Frame} {meth : Method} {c : Code} {H : Heap} {locs : List Loc} {cells slots : Nat} {Q : State → Prop}
variable {cc : ByteArray} {pc nL : Nat} {ls : Array Slot} {D : va_G} {A : Nat → Prop} {cI cJ : ClassId} {w w' w1 : va_W} {mc ms : Nat} {Ts ws : List Cond} {own : String} {o : XO}
theorem eH {v r : Int32} (hx : p.tables.exec = Jvm.exec) (hb : c.code = cc) (hr : meth.sig.returnType = some .int) (hlk : meth.locks = false) (hP : va_P D vwCl w1 H) (hS : va_S A s.heap H locs) (hdg : decode cc pc = .ok (.ireturn, 1)) (hc : cells ≤ mc) (hs : slots ≤ ms) (ev : v = r) (ew : w1 = w') : W p l e R s m args below meth c H locs cells slots (QH below D w' r args s mc ms A) (F0 m pc ls [.int v]) := by
  subst ev; subst ew
  refine vx_ret (W.widen hc hs ?_)
  exact W.iret hx hb hr (fun t ht hW => ⟨⟨v, (), rfl, rfl, by show va_P D vwCl w1 t.heap; rw [ht]; exact hP⟩, hS.F ht⟩) hS.2.2 hdg hlk
/-- a call of a method that throws, by one that catches -/
theorem kVx {y : MethodName} {rm : Room} {C : String} {index : Nat} {bytes : ByteArray} {maxL n : Nat} {ret : Option FieldType} {b : Nat} {As rest st : List Value} (B : CallFix p m c cc nL s args Ts own) (hK : va_K D vwCl (tyL cI cJ) s) (hN : NN s) (hT : TX A s) (hP : va_P D vwCl w H) (hD : va_D A w) (hS : va_S A s.heap H locs) (hA : ∀ q : Nat, s.heap.size ≤ q → A q)
    (hM : Cx l y ws rm D cI cJ (.ref b :: As) w o) (cw : CallW R s args own C index y bytes maxL ret ws rm rm.cells rm.slots n) (ci q0 : Nat) {fs : List Value} {T : u_T} {N : Nat} (hci : vwCl[ci]? = some (C, T, N)) (he : w[q0]? = some (b, .inr (ci, fs))) (hn : As.length = n) (hl : ls.size = nL) (hst : st = As.reverse ++ .ref b :: rest) (h8 : (rest.map fun v => v.category).sum ≤ 8) (hdg : decode cc pc = .ok (.invokevirtual index, 3)) (hcs : cells + rm.cells ≤ R.cells ∧ slots + rm.slots ≤ R.slots)
    (kx : ∀ (E : String) (ce : Cell) (q9 : Addr) (H1 : Heap) (locs1 : List Loc), o = .inl E → va_P D vwCl w H1 → va_D A w → va_S A s.heap H1 locs1 → H1[q9]? = some ce → ce.vm = .none → s.vm.findClass E = some ce.cls → vx_W p l e R s m args below meth c H1 locs1 (cells + rm.cells) (slots + rm.slots) Q (F0 m pc ls rest) q9)
    (k : ∀ (r : Int32) (W1 : va_W) (H1 : Heap) (locs1 : List Loc), o = .inr (r, W1) → va_P D vwCl W1 H1 → va_S A s.heap H1 locs1 → W p l e R s m args below meth c H1 locs1 (cells + rm.cells) (slots + rm.slots) Q (F0 m (pc + 3) ls (.int r :: rest))) : W p l e R s m args below meth c H locs cells slots Q (F0 m pc ls st) :=
  vx_calli (vx_runV (As := As) (rest := rest) B (hM H.size) cw ⟨Px.blind, va_recv hK hP hci he, fun U hU hW => ⟨rfl, ⟨by rw [hU], by rw [hU]; exact hP, va_K.moved hW.alike hK, NN.warm hW hN, hD.weaken (fun _ _ _ _ => trivial)⟩, TX.call hT hS (fre hD hS hA) hU hW⟩⟩ rfl hn hl hst (lv_room h8) hdg hcs) hS (fun q _ h => fre hD hS hA q h) (fre hD hS hA) (fun q _ h => fre hD hS hA q h)
    (fun E ce q9 u t H1 locs1 ht hvm hp hB hz1 hk1 hS1 hc hv hcl => kx E ce q9 H1 locs1 hB.1 (ht ▸ hB.2) hD hS1 hc hv hcl)
    (fun r W1 t H1 locs1 ht hvm hw hB hz1 hk1 hS1 => k r W1 H1 locs1 hw (ht ▸ hB) hS1)
end
set_option maxHeartbeats 4000000 in
set_option maxRecDepth 100000 in
theorem c_L_addLand (l : Launch) (hfl : l.stackTraces = false) (D : va_G) (cI cJ : ClassId) (a b x : Nat → Nat) (G : Nat → Nat → Int32) (g : Nat → Int32) (J : Nat → Nat → Int32) (j : Nat → Int32) (F : Nat → Int32) (p0 p1 : Int32) (z : String ⊕ (Int32 × (Nat → Nat → Int32) × (Nat → Int32))) (oA : Nat) (O : Nat → Int64) (r : Int32) (w' : va_W) (rs : va_W) (h : fX5_addLand G g p0 p1 = some z) (hz : z.elim (fun E => ((E = IA ∧ r = 1) ∨ (E = IS ∧ r = 2)) ∧ wl cI a G g ++ (wl cI b J j ++ (xr cI a b x F ++ ((oA, .inl (cJ, 1, .inr (.inl O))) :: rs))) = w') (fun q => 0 = r ∧ wl cI a q.2.1 q.2.2 ++ (wl cI b J j ++ (xr cI a b x F ++ ((oA, .inl (cJ, 1, .inr (.inl (vp_updL O 0 q.1.toInt64)))) :: rs))) = w')) : Ch l yL_addLand wsL_addLand ({ frames := 7, cells := 1, slots := 6, locals := 104 } : Room) D cI cJ ([.ref (x 0), .int p0, .int p1, .ref oA] : List Value) (wl cI a G g ++ (wl cI b J j ++ (xr cI a b x F ++ ((oA, .inl (cJ, 1, .inr (.inl O))) :: rs)))) r w' := by
  refine Ch.mk (cc := cL_addLand) (maxL := 5) (ret := (some .int)) (hh := [(0, 10, 13, 13), (0, 10, 17, 15)]) (by decide) rfl (Nat.le_of_ble_eq_true rfl) ?_
  intro p e s m below meth c A ls B hr hlk htab hT hK hN hA hP hD hl
  obtain ⟨hx, hb, hml, hown, hts⟩ := id B
  have hS : va_S A s.heap s.heap [] := va_S.rf
  have hl : lv_has ls 5 [(0, .ref (x 0)), (1, .int p0), (2, .int p1), (3, .ref oA)] := hl
  refine lv_aload_n hx hb dL_addLand_0 rfl (lv_at hl 3 rfl) ?_
  refine lv_iconst (v := 0) hx hb dL_addLand_1 (by decide) ?_
  refine lv_aload_n hx hb dL_addLand_2 rfl (lv_at hl 0 rfl) ?_
  refine lv_iload_n hx hb dL_addLand_3 rfl (lv_at hl 1 rfl) ?_
  refine lv_iload_n hx hb dL_addLand_4 rfl (lv_at hl 2 rfl) ?_
  refine kVx (As := [.int p0, .int p1]) (rest := [.int 0, .ref oA]) B hK hN hT hP hD hS hA (c_X5_addLand l hfl D cI cJ a b x G g J j F p0 p1 z ((oA, .inl (cJ, 1, .inr (.inl O))) :: rs) h) (cwV 2 hts gL_addLand_X5_addLand rfl rfl rfl (by decide +kernel) ⟨(Nat.le_of_ble_eq_true rfl), (Nat.le_of_ble_eq_true rfl)⟩) 8 56 rfl rfl rfl hl.1 rfl (Nat.le_of_ble_eq_true rfl) dL_addLand_5 ⟨(Nat.le_of_ble_eq_true rfl), (Nat.le_of_ble_eq_true rfl)⟩ (fun E ce q9 H locs ho hP hD hS hcell hv hcl => ?_) (fun r1 W1 H locs ho hP hS => ?_)
  · cases z with
    | inr q => cases ho
    | inl E1 =>
      cases ho
      obtain ⟨hE, rfl⟩ := hz
      rcases hE with ⟨rfl, rfl⟩ | ⟨rfl, rfl⟩
      · refine vx_catch hown [] ⟨0, 10, 13, 13⟩ [⟨0, 10, 17, 15⟩] htab (fun z hz => nomatch hz) (by decide) (by decide) (hts (.classLink RL 13 "java/lang/IllegalArgumentException") (List.mem_of_getElem? (i := 1) rfl)) (va_Nw.use rfl (hT.2.2.2.1 _ (List.mem_of_getElem? (i := 0) rfl))) hcell hv hcl ?_
        refine lv_astore (lv' := [(4, .ref q9), (0, .ref (x 0)), (1, .int p0), (2, .int p1), (3, .ref oA)]) hx hb dL_addLand_13 hl (by decide) rfl (fun ls hl => ?_)
        refine lv_iconst (v := 1) hx hb dL_addLand_15 (by decide) ?_
        exact eH hx hb hr hlk hP hS dL_addLand_16 (Nat.le_of_ble_eq_true rfl) (Nat.le_of_ble_eq_true rfl) rfl rfl
      · refine vx_catch hown [⟨0, 10, 13, 13⟩] ⟨0, 10, 17, 15⟩ [] htab (fun z hz => by
          simp only [List.mem_cons, List.not_mem_nil, or_false] at hz
          subst hz
          exact Or.inr ⟨by decide, "java/lang/IllegalArgumentException", (hts (.classLink RL 13 "java/lang/IllegalArgumentException") (List.mem_of_getElem? (i := 1) rfl)), hT.2.2.2.2.1 _ (List.mem_of_getElem? (i := 0) rfl)⟩) (by decide) (by decide) (hts (.classLink RL 15 "java/lang/IllegalStateException") (List.mem_of_getElem? (i := 2) rfl)) (va_Nw.use rfl (hT.2.2.2.1 _ (List.mem_of_getElem? (i := 1) rfl))) hcell hv hcl ?_
        refine lv_astore (lv' := [(4, .ref q9), (0, .ref (x 0)), (1, .int p0), (2, .int p1), (3, .ref oA)]) hx hb dL_addLand_17 hl (by decide) rfl (fun ls hl => ?_)
        refine lv_iconst (v := 2) hx hb dL_addLand_19 (by decide) ?_
        exact eH hx hb hr hlk hP hS dL_addLand_20 (Nat.le_of_ble_eq_true rfl) (Nat.le_of_ble_eq_true rfl) rfl rfl
  · cases z with
    | inl E1 => cases ho
    | inr q =>
      cases ho
      obtain ⟨rfl, rfl⟩ := hz
      have hD := D_map hD (show List.map Prod.fst (wl cI a q.2.1 q.2.2 ++ (wl cI b J j ++ (xr cI a b x F ++ ((oA, .inl (cJ, 1, .inr (.inl O))) :: rs)))) = List.map Prod.fst (wl cI a G g ++ (wl cI b J j ++ (xr cI a b x F ++ ((oA, .inl (cJ, 1, .inr (.inl O))) :: rs)))) from rfl)
      refine lv_i2l hx hb dL_addLand_8 rfl ?_
      refine va_last hx hb hK hP hD hS 59 1 rfl rfl (vp_in_nI (n := 0) (by decide) (by decide)) dL_addLand_9 (fun H locs hP hD hS => ?_)
      refine lv_goto (tgt := 21) hx hb dL_addLand_10 (by decide) ?_
      refine lv_iconst (v := 0) hx hb dL_addLand_21 (by decide) ?_
      exact eH hx hb hr hlk hP hS dL_addLand_22 (Nat.le_of_ble_eq_true rfl) (Nat.le_of_ble_eq_true rfl) rfl rfl
set_option maxHeartbeats 4000000 in
set_option maxRecDepth 100000 in
theorem c_L_setTide (l : Launch) (hfl : l.stackTraces = false) (D : va_G) (cI cJ : ClassId) (a b x : Nat → Nat) (G : Nat → Nat → Int32) (g : Nat → Int32) (J : Nat → Nat → Int32) (j : Nat → Int32) (F : Nat → Int32) (p0 p1 : Int32) (z : String ⊕ (Int32 × (Nat → Nat → Int32))) (oA : Nat) (O : Nat → Int64) (r : Int32) (w' : va_W) (rs : va_W) (h : fX5_setTide G p0 p1 = some z) (hz : z.elim (fun E => ((E = IX ∧ r = 1) ∨ (E = IA ∧ r = 2)) ∧ wl cI a G g ++ (wl cI b J j ++ (xr cI a b x F ++ ((oA, .inl (cJ, 1, .inr (.inl O))) :: rs))) = w') (fun q => 0 = r ∧ wl cI a q.2 g ++ (wl cI b J j ++ (xr cI a b x F ++ ((oA, .inl (cJ, 1, .inr (.inl (vp_updL O 0 q.1.toInt64)))) :: rs))) = w')) : Ch l yL_setTide wsL_setTide ({ frames := 7, cells := 1, slots := 6, locals := 105 } : Room) D cI cJ ([.ref (x 0), .int p0, .int p1, .ref oA] : List Value) (wl cI a G g ++ (wl cI b J j ++ (xr cI a b x F ++ ((oA, .inl (cJ, 1, .inr (.inl O))) :: rs)))) r w' := by
  refine Ch.mk (cc := cL_setTide) (maxL := 5) (ret := (some .int)) (hh := [(0, 10, 13, 20), (0, 10, 17, 13)]) (by decide) rfl (Nat.le_of_ble_eq_true rfl) ?_
  intro p e s m below meth c A ls B hr hlk htab hT hK hN hA hP hD hl
  obtain ⟨hx, hb, hml, hown, hts⟩ := id B
  have hS : va_S A s.heap s.heap [] := va_S.rf
  have hl : lv_has ls 5 [(0, .ref (x 0)), (1, .int p0), (2, .int p1), (3, .ref oA)] := hl
  refine lv_aload_n hx hb dL_setTide_0 rfl (lv_at hl 3 rfl) ?_
  refine lv_iconst (v := 0) hx hb dL_setTide_1 (by decide) ?_
  refine lv_aload_n hx hb dL_setTide_2 rfl (lv_at hl 0 rfl) ?_
  refine lv_iload_n hx hb dL_setTide_3 rfl (lv_at hl 1 rfl) ?_
  refine lv_iload_n hx hb dL_setTide_4 rfl (lv_at hl 2 rfl) ?_
  refine kVx (As := [.int p0, .int p1]) (rest := [.int 0, .ref oA]) B hK hN hT hP hD hS hA (c_X5_setTide l hfl D cI cJ a b x G g J j F p0 p1 z ((oA, .inl (cJ, 1, .inr (.inl O))) :: rs) h) (cwV 2 hts gL_setTide_X5_setTide rfl rfl rfl (by decide +kernel) ⟨(Nat.le_of_ble_eq_true rfl), (Nat.le_of_ble_eq_true rfl)⟩) 8 56 rfl rfl rfl hl.1 rfl (Nat.le_of_ble_eq_true rfl) dL_setTide_5 ⟨(Nat.le_of_ble_eq_true rfl), (Nat.le_of_ble_eq_true rfl)⟩ (fun E ce q9 H locs ho hP hD hS hcell hv hcl => ?_) (fun r1 W1 H locs ho hP hS => ?_)
  · cases z with
    | inr q => cases ho
    | inl E1 =>
      cases ho
      obtain ⟨hE, rfl⟩ := hz
      rcases hE with ⟨rfl, rfl⟩ | ⟨rfl, rfl⟩
      · refine vx_catch hown [] ⟨0, 10, 13, 20⟩ [⟨0, 10, 17, 13⟩] htab (fun z hz => nomatch hz) (by decide) (by decide) (hts (.classLink RL 20 "java/lang/IndexOutOfBoundsException") (List.mem_of_getElem? (i := 1) rfl)) (va_Nw.use rfl (hT.2.2.2.1 _ (List.mem_of_getElem? (i := 2) rfl))) hcell hv hcl ?_
        refine lv_astore (lv' := [(4, .ref q9), (0, .ref (x 0)), (1, .int p0), (2, .int p1), (3, .ref oA)]) hx hb dL_setTide_13 hl (by decide) rfl (fun ls hl => ?_)
        refine lv_iconst (v := 1) hx hb dL_setTide_15 (by decide) ?_
        exact eH hx hb hr hlk hP hS dL_setTide_16 (Nat.le_of_ble_eq_true rfl) (Nat.le_of_ble_eq_true rfl) rfl rfl
      · refine vx_catch hown [⟨0, 10, 13, 20⟩] ⟨0, 10, 17, 13⟩ [] htab (fun z hz => by
          simp only [List.mem_cons, List.not_mem_nil, or_false] at hz
          subst hz
          exact Or.inr ⟨by decide, "java/lang/IndexOutOfBoundsException", (hts (.classLink RL 20 "java/lang/IndexOutOfBoundsException") (List.mem_of_getElem? (i := 1) rfl)), hT.2.2.2.2.1 _ (List.mem_of_getElem? (i := 4) rfl)⟩) (by decide) (by decide) (hts (.classLink RL 13 "java/lang/IllegalArgumentException") (List.mem_of_getElem? (i := 2) rfl)) (va_Nw.use rfl (hT.2.2.2.1 _ (List.mem_of_getElem? (i := 0) rfl))) hcell hv hcl ?_
        refine lv_astore (lv' := [(4, .ref q9), (0, .ref (x 0)), (1, .int p0), (2, .int p1), (3, .ref oA)]) hx hb dL_setTide_17 hl (by decide) rfl (fun ls hl => ?_)
        refine lv_iconst (v := 2) hx hb dL_setTide_19 (by decide) ?_
        exact eH hx hb hr hlk hP hS dL_setTide_20 (Nat.le_of_ble_eq_true rfl) (Nat.le_of_ble_eq_true rfl) rfl rfl
  · cases z with
    | inl E1 => cases ho
    | inr q =>
      cases ho
      obtain ⟨rfl, rfl⟩ := hz
      have hD := D_map hD (show List.map Prod.fst (wl cI a q.2 g ++ (wl cI b J j ++ (xr cI a b x F ++ ((oA, .inl (cJ, 1, .inr (.inl O))) :: rs)))) = List.map Prod.fst (wl cI a G g ++ (wl cI b J j ++ (xr cI a b x F ++ ((oA, .inl (cJ, 1, .inr (.inl O))) :: rs)))) from rfl)
      refine lv_i2l hx hb dL_setTide_8 rfl ?_
      refine va_last hx hb hK hP hD hS 59 1 rfl rfl (vp_in_nI (n := 0) (by decide) (by decide)) dL_setTide_9 (fun H locs hP hD hS => ?_)
      refine lv_goto (tgt := 21) hx hb dL_setTide_10 (by decide) ?_
      refine lv_iconst (v := 0) hx hb dL_setTide_21 (by decide) ?_
      exact eH hx hb hr hlk hP hS dL_setTide_22 (Nat.le_of_ble_eq_true rfl) (Nat.le_of_ble_eq_true rfl) rfl rfl
set_option maxHeartbeats 4000000 in
set_option maxRecDepth 100000 in
theorem c_L_wish (l : Launch) (hfl : l.stackTraces = false) (D : va_G) (cI cJ : ClassId) (a b x : Nat → Nat) (G : Nat → Nat → Int32) (g : Nat → Int32) (J : Nat → Nat → Int32) (j : Nat → Int32) (F : Nat → Int32) (p0 p1 : Int32) (z : String ⊕ (Int32 × (Nat → Nat → Int32) × (Nat → Int32))) (oA : Nat) (O : Nat → Int64) (r : Int32) (w' : va_W) (rs : va_W) (h : fX5_wish G g p0 p1 = some z) (hz : z.elim (fun E => ((E = IX ∧ r = 1) ∨ (E = IA ∧ r = 2) ∨ (E = IS ∧ r = 3)) ∧ wl cI a G g ++ (wl cI b J j ++ (xr cI a b x F ++ ((oA, .inl (cJ, 1, .inr (.inl O))) :: rs))) = w') (fun q => 0 = r ∧ wl cI a q.2.1 q.2.2 ++ (wl cI b J j ++ (xr cI a b x F ++ ((oA, .inl (cJ, 1, .inr (.inl (vp_updL O 0 q.1.toInt64)))) :: rs))) = w')) : Ch l yL_wish wsL_wish ({ frames := 7, cells := 1, slots := 6, locals := 104 } : Room) D cI cJ ([.ref (x 0), .int p0, .int p1, .ref oA] : List Value) (wl cI a G g ++ (wl cI b J j ++ (xr cI a b x F ++ ((oA, .inl (cJ, 1, .inr (.inl O))) :: rs)))) r w' := by
  refine Ch.mk (cc := cL_wish) (maxL := 5) (ret := (some .int)) (hh := [(0, 10, 13, 20), (0, 10, 17, 13), (0, 10, 21, 15)]) (by decide) rfl (Nat.le_of_ble_eq_true rfl) ?_
  intro p e s m below meth c A ls B hr hlk htab hT hK hN hA hP hD hl
  obtain ⟨hx, hb, hml, hown, hts⟩ := id B
  have hS : va_S A s.heap s.heap [] := va_S.rf
  have hl : lv_has ls 5 [(0, .ref (x 0)), (1, .int p0), (2, .int p1), (3, .ref oA)] := hl
  refine lv_aload_n hx hb dL_wish_0 rfl (lv_at hl 3 rfl) ?_
  refine lv_iconst (v := 0) hx hb dL_wish_1 (by decide) ?_
  refine lv_aload_n hx hb dL_wish_2 rfl (lv_at hl 0 rfl) ?_
  refine lv_iload_n hx hb dL_wish_3 rfl (lv_at hl 1 rfl) ?_
  refine lv_iload_n hx hb dL_wish_4 rfl (lv_at hl 2 rfl) ?_
  refine kVx (As := [.int p0, .int p1]) (rest := [.int 0, .ref oA]) B hK hN hT hP hD hS hA (c_X5_wish l hfl D cI cJ a b x G g J j F p0 p1 z ((oA, .inl (cJ, 1, .inr (.inl O))) :: rs) h) (cwV 2 hts gL_wish_X5_wish rfl rfl rfl (by decide +kernel) ⟨(Nat.le_of_ble_eq_true rfl), (Nat.le_of_ble_eq_true rfl)⟩) 8 56 rfl rfl rfl hl.1 rfl (Nat.le_of_ble_eq_true rfl) dL_wish_5 ⟨(Nat.le_of_ble_eq_true rfl), (Nat.le_of_ble_eq_true rfl)⟩ (fun E ce q9 H locs ho hP hD hS hcell hv hcl => ?_) (fun r1 W1 H locs ho hP hS => ?_)
  · cases z with
    | inr q => cases ho
    | inl E1 =>
      cases ho
      obtain ⟨hE, rfl⟩ := hz
      rcases hE with ⟨rfl, rfl⟩ | ⟨rfl, rfl⟩ | ⟨rfl, rfl⟩
      · refine vx_catch hown [] ⟨0, 10, 13, 20⟩ [⟨0, 10, 17, 13⟩, ⟨0, 10, 21, 15⟩] htab (fun z hz => nomatch hz) (by decide) (by decide) (hts (.classLink RL 20 "java/lang/IndexOutOfBoundsException") (List.mem_of_getElem? (i := 1) rfl)) (va_Nw.use rfl (hT.2.2.2.1 _ (List.mem_of_getElem? (i := 2) rfl))) hcell hv hcl ?_
        refine lv_astore (lv' := [(4, .ref q9), (0, .ref (x 0)), (1, .int p0), (2, .int p1), (3, .ref oA)]) hx hb dL_wish_13 hl (by decide) rfl (fun ls hl => ?_)
        refine lv_iconst (v := 1) hx hb dL_wish_15 (by decide) ?_
        exact eH hx hb hr hlk hP hS dL_wish_16 (Nat.le_of_ble_eq_true rfl) (Nat.le_of_ble_eq_true rfl) rfl rfl
      · refine vx_catch hown [⟨0, 10, 13, 20⟩] ⟨0, 10, 17, 13⟩ [⟨0, 10, 21, 15⟩] htab (fun z hz => by
          simp only [List.mem_cons, List.not_mem_nil, or_false] at hz
          subst hz
          exact Or.inr ⟨by decide, "java/lang/IndexOutOfBoundsException", (hts (.classLink RL 20 "java/lang/IndexOutOfBoundsException") (List.mem_of_getElem? (i := 1) rfl)), hT.2.2.2.2.1 _ (List.mem_of_getElem? (i := 4) rfl)⟩) (by decide) (by decide) (hts (.classLink RL 13 "java/lang/IllegalArgumentException") (List.mem_of_getElem? (i := 2) rfl)) (va_Nw.use rfl (hT.2.2.2.1 _ (List.mem_of_getElem? (i := 0) rfl))) hcell hv hcl ?_
        refine lv_astore (lv' := [(4, .ref q9), (0, .ref (x 0)), (1, .int p0), (2, .int p1), (3, .ref oA)]) hx hb dL_wish_17 hl (by decide) rfl (fun ls hl => ?_)
        refine lv_iconst (v := 2) hx hb dL_wish_19 (by decide) ?_
        exact eH hx hb hr hlk hP hS dL_wish_20 (Nat.le_of_ble_eq_true rfl) (Nat.le_of_ble_eq_true rfl) rfl rfl
      · refine vx_catch hown [⟨0, 10, 13, 20⟩, ⟨0, 10, 17, 13⟩] ⟨0, 10, 21, 15⟩ [] htab (fun z hz => by
          simp only [List.mem_cons, List.not_mem_nil, or_false] at hz
          rcases hz with rfl | rfl
          · exact Or.inr ⟨by decide, "java/lang/IndexOutOfBoundsException", (hts (.classLink RL 20 "java/lang/IndexOutOfBoundsException") (List.mem_of_getElem? (i := 1) rfl)), hT.2.2.2.2.1 _ (List.mem_of_getElem? (i := 5) rfl)⟩
          · exact Or.inr ⟨by decide, "java/lang/IllegalArgumentException", (hts (.classLink RL 13 "java/lang/IllegalArgumentException") (List.mem_of_getElem? (i := 2) rfl)), hT.2.2.2.2.1 _ (List.mem_of_getElem? (i := 0) rfl)⟩) (by decide) (by decide) (hts (.classLink RL 15 "java/lang/IllegalStateException") (List.mem_of_getElem? (i := 3) rfl)) (va_Nw.use rfl (hT.2.2.2.1 _ (List.mem_of_getElem? (i := 1) rfl))) hcell hv hcl ?_
        refine lv_astore (lv' := [(4, .ref q9), (0, .ref (x 0)), (1, .int p0), (2, .int p1), (3, .ref oA)]) hx hb dL_wish_21 hl (by decide) rfl (fun ls hl => ?_)
        refine lv_iconst (v := 3) hx hb dL_wish_23 (by decide) ?_
        exact eH hx hb hr hlk hP hS dL_wish_24 (Nat.le_of_ble_eq_true rfl) (Nat.le_of_ble_eq_true rfl) rfl rfl
  · cases z with
    | inl E1 => cases ho
    | inr q =>
      cases ho
      obtain ⟨rfl, rfl⟩ := hz
      have hD := D_map hD (show List.map Prod.fst (wl cI a q.2.1 q.2.2 ++ (wl cI b J j ++ (xr cI a b x F ++ ((oA, .inl (cJ, 1, .inr (.inl O))) :: rs)))) = List.map Prod.fst (wl cI a G g ++ (wl cI b J j ++ (xr cI a b x F ++ ((oA, .inl (cJ, 1, .inr (.inl O))) :: rs)))) from rfl)
      refine lv_i2l hx hb dL_wish_8 rfl ?_
      refine va_last hx hb hK hP hD hS 59 1 rfl rfl (vp_in_nI (n := 0) (by decide) (by decide)) dL_wish_9 (fun H locs hP hD hS => ?_)
      refine lv_goto (tgt := 25) hx hb dL_wish_10 (by decide) ?_
      refine lv_iconst (v := 0) hx hb dL_wish_25 (by decide) ?_
      exact eH hx hb hr hlk hP hS dL_wish_26 (Nat.le_of_ble_eq_true rfl) (Nat.le_of_ble_eq_true rfl) rfl rfl
set_option maxHeartbeats 4000000 in
set_option maxRecDepth 100000 in
theorem c_L_withdraw (l : Launch) (hfl : l.stackTraces = false) (D : va_G) (cI cJ : ClassId) (a b x : Nat → Nat) (G : Nat → Nat → Int32) (g : Nat → Int32) (J : Nat → Nat → Int32) (j : Nat → Int32) (F : Nat → Int32) (p0 : Int32) (z : String ⊕ (Int32 × (Nat → Nat → Int32) × (Nat → Int32))) (oA : Nat) (O : Nat → Int64) (r : Int32) (w' : va_W) (rs : va_W) (h : fX5_withdraw G g p0 = some z) (hz : z.elim (fun E => ((E = IX ∧ r = 1) ∨ (E = IS ∧ r = 2)) ∧ wl cI a G g ++ (wl cI b J j ++ (xr cI a b x F ++ ((oA, .inl (cJ, 1, .inr (.inl O))) :: rs))) = w') (fun q => 0 = r ∧ wl cI a q.2.1 q.2.2 ++ (wl cI b J j ++ (xr cI a b x F ++ ((oA, .inl (cJ, 1, .inr (.inl (vp_updL O 0 q.1.toInt64)))) :: rs))) = w')) : Ch l yL_withdraw wsL_withdraw ({ frames := 7, cells := 1, slots := 6, locals := 110 } : Room) D cI cJ ([.ref (x 0), .int p0, .ref oA] : List Value) (wl cI a G g ++ (wl cI b J j ++ (xr cI a b x F ++ ((oA, .inl (cJ, 1, .inr (.inl O))) :: rs)))) r w' := by
  refine Ch.mk (cc := cL_withdraw) (maxL := 4) (ret := (some .int)) (hh := [(0, 9, 12, 20), (0, 9, 15, 15)]) (by decide) rfl (Nat.le_of_ble_eq_true rfl) ?_
  intro p e s m below meth c A ls B hr hlk htab hT hK hN hA hP hD hl
  obtain ⟨hx, hb, hml, hown, hts⟩ := id B
  have hS : va_S A s.heap s.heap [] := va_S.rf
  have hl : lv_has ls 4 [(0, .ref (x 0)), (1, .int p0), (2, .ref oA)] := hl
  refine lv_aload_n hx hb dL_withdraw_0 rfl (lv_at hl 2 rfl) ?_
  refine lv_iconst (v := 0) hx hb dL_withdraw_1 (by decide) ?_
  refine lv_aload_n hx hb dL_withdraw_2 rfl (lv_at hl 0 rfl) ?_
  refine lv_iload_n hx hb dL_withdraw_3 rfl (lv_at hl 1 rfl) ?_
  refine kVx (As := [.int p0]) (rest := [.int 0, .ref oA]) B hK hN hT hP hD hS hA (c_X5_withdraw l hfl D cI cJ a b x G g J j F p0 z ((oA, .inl (cJ, 1, .inr (.inl O))) :: rs) h) (cwV 1 hts gL_withdraw_X5_withdraw rfl rfl rfl (by decide +kernel) ⟨(Nat.le_of_ble_eq_true rfl), (Nat.le_of_ble_eq_true rfl)⟩) 8 56 rfl rfl rfl hl.1 rfl (Nat.le_of_ble_eq_true rfl) dL_withdraw_4 ⟨(Nat.le_of_ble_eq_true rfl), (Nat.le_of_ble_eq_true rfl)⟩ (fun E ce q9 H locs ho hP hD hS hcell hv hcl => ?_) (fun r1 W1 H locs ho hP hS => ?_)
  · cases z with
    | inr q => cases ho
    | inl E1 =>
      cases ho
      obtain ⟨hE, rfl⟩ := hz
      rcases hE with ⟨rfl, rfl⟩ | ⟨rfl, rfl⟩
      · refine vx_catch hown [] ⟨0, 9, 12, 20⟩ [⟨0, 9, 15, 15⟩] htab (fun z hz => nomatch hz) (by decide) (by decide) (hts (.classLink RL 20 "java/lang/IndexOutOfBoundsException") (List.mem_of_getElem? (i := 1) rfl)) (va_Nw.use rfl (hT.2.2.2.1 _ (List.mem_of_getElem? (i := 2) rfl))) hcell hv hcl ?_
        refine lv_astore_n (lv' := [(3, .ref q9), (0, .ref (x 0)), (1, .int p0), (2, .ref oA)]) hx hb dL_withdraw_12 rfl hl (by decide) rfl (fun ls hl => ?_)
        refine lv_iconst (v := 1) hx hb dL_withdraw_13 (by decide) ?_
        exact eH hx hb hr hlk hP hS dL_withdraw_14 (Nat.le_of_ble_eq_true rfl) (Nat.le_of_ble_eq_true rfl) rfl rfl
      · refine vx_catch hown [⟨0, 9, 12, 20⟩] ⟨0, 9, 15, 15⟩ [] htab (fun z hz => by
          simp only [List.mem_cons, List.not_mem_nil, or_false] at hz
          subst hz
          exact Or.inr ⟨by decide, "java/lang/IndexOutOfBoundsException", (hts (.classLink RL 20 "java/lang/IndexOutOfBoundsException") (List.mem_of_getElem? (i := 1) rfl)), hT.2.2.2.2.1 _ (List.mem_of_getElem? (i := 5) rfl)⟩) (by decide) (by decide) (hts (.classLink RL 15 "java/lang/IllegalStateException") (List.mem_of_getElem? (i := 2) rfl)) (va_Nw.use rfl (hT.2.2.2.1 _ (List.mem_of_getElem? (i := 1) rfl))) hcell hv hcl ?_
        refine lv_astore_n (lv' := [(3, .ref q9), (0, .ref (x 0)), (1, .int p0), (2, .ref oA)]) hx hb dL_withdraw_15 rfl hl (by decide) rfl (fun ls hl => ?_)
        refine lv_iconst (v := 2) hx hb dL_withdraw_16 (by decide) ?_
        exact eH hx hb hr hlk hP hS dL_withdraw_17 (Nat.le_of_ble_eq_true rfl) (Nat.le_of_ble_eq_true rfl) rfl rfl
  · cases z with
    | inl E1 => cases ho
    | inr q =>
      cases ho
      obtain ⟨rfl, rfl⟩ := hz
      have hD := D_map hD (show List.map Prod.fst (wl cI a q.2.1 q.2.2 ++ (wl cI b J j ++ (xr cI a b x F ++ ((oA, .inl (cJ, 1, .inr (.inl O))) :: rs)))) = List.map Prod.fst (wl cI a G g ++ (wl cI b J j ++ (xr cI a b x F ++ ((oA, .inl (cJ, 1, .inr (.inl O))) :: rs)))) from rfl)
      refine lv_i2l hx hb dL_withdraw_7 rfl ?_
      refine va_last hx hb hK hP hD hS 59 1 rfl rfl (vp_in_nI (n := 0) (by decide) (by decide)) dL_withdraw_8 (fun H locs hP hD hS => ?_)
      refine lv_goto (tgt := 18) hx hb dL_withdraw_9 (by decide) ?_
      refine lv_iconst (v := 0) hx hb dL_withdraw_18 (by decide) ?_
      exact eH hx hb hr hlk hP hS dL_withdraw_19 (Nat.le_of_ble_eq_true rfl) (Nat.le_of_ble_eq_true rfl) rfl rfl
set_option maxHeartbeats 4000000 in
set_option maxRecDepth 100000 in
theorem c_L_fish (l : Launch) (hfl : l.stackTraces = false) (D : va_G) (cI cJ : ClassId) (a b x : Nat → Nat) (G : Nat → Nat → Int32) (g : Nat → Int32) (J : Nat → Nat → Int32) (j : Nat → Int32) (F : Nat → Int32) (p0 p1 : Int32) (z : String ⊕ (Int32 × (Nat → Nat → Int32) × (Nat → Int32))) (oA : Nat) (O : Nat → Int64) (r : Int32) (w' : va_W) (rs : va_W) (h : fX5_fish G g p0 p1 = some z) (hz : z.elim (fun E => ((E = IX ∧ r = 1) ∨ (E = IA ∧ r = 2)) ∧ wl cI a G g ++ (wl cI b J j ++ (xr cI a b x F ++ ((oA, .inl (cJ, 1, .inr (.inl O))) :: rs))) = w') (fun q => 0 = r ∧ wl cI a q.2.1 q.2.2 ++ (wl cI b J j ++ (xr cI a b x F ++ ((oA, .inl (cJ, 1, .inr (.inl (vp_updL O 0 q.1.toInt64)))) :: rs))) = w')) : Ch l yL_fish wsL_fish ({ frames := 7, cells := 1, slots := 6, locals := 115 } : Room) D cI cJ ([.ref (x 0), .int p0, .int p1, .ref oA] : List Value) (wl cI a G g ++ (wl cI b J j ++ (xr cI a b x F ++ ((oA, .inl (cJ, 1, .inr (.inl O))) :: rs)))) r w' := by
  refine Ch.mk (cc := cL_fish) (maxL := 5) (ret := (some .int)) (hh := [(0, 10, 13, 20), (0, 10, 17, 13)]) (by decide) rfl (Nat.le_of_ble_eq_true rfl) ?_
  intro p e s m below meth c A ls B hr hlk htab hT hK hN hA hP hD hl
  obtain ⟨hx, hb, hml, hown, hts⟩ := id B
  have hS : va_S A s.heap s.heap [] := va_S.rf
  have hl : lv_has ls 5 [(0, .ref (x 0)), (1, .int p0), (2, .int p1), (3, .ref oA)] := hl
  refine lv_aload_n hx hb dL_fish_0 rfl (lv_at hl 3 rfl) ?_
  refine lv_iconst (v := 0) hx hb dL_fish_1 (by decide) ?_
  refine lv_aload_n hx hb dL_fish_2 rfl (lv_at hl 0 rfl) ?_
  refine lv_iload_n hx hb dL_fish_3 rfl (lv_at hl 1 rfl) ?_
  refine lv_iload_n hx hb dL_fish_4 rfl (lv_at hl 2 rfl) ?_
  refine kVx (As := [.int p0, .int p1]) (rest := [.int 0, .ref oA]) B hK hN hT hP hD hS hA (c_X5_fish l hfl D cI cJ a b x G g J j F p0 p1 z ((oA, .inl (cJ, 1, .inr (.inl O))) :: rs) h) (cwV 2 hts gL_fish_X5_fish rfl rfl rfl (by decide +kernel) ⟨(Nat.le_of_ble_eq_true rfl), (Nat.le_of_ble_eq_true rfl)⟩) 8 56 rfl rfl rfl hl.1 rfl (Nat.le_of_ble_eq_true rfl) dL_fish_5 ⟨(Nat.le_of_ble_eq_true rfl), (Nat.le_of_ble_eq_true rfl)⟩ (fun E ce q9 H locs ho hP hD hS hcell hv hcl => ?_) (fun r1 W1 H locs ho hP hS => ?_)
  · cases z with
    | inr q => cases ho
    | inl E1 =>
      cases ho
      obtain ⟨hE, rfl⟩ := hz
      rcases hE with ⟨rfl, rfl⟩ | ⟨rfl, rfl⟩
      · refine vx_catch hown [] ⟨0, 10, 13, 20⟩ [⟨0, 10, 17, 13⟩] htab (fun z hz => nomatch hz) (by decide) (by decide) (hts (.classLink RL 20 "java/lang/IndexOutOfBoundsException") (List.mem_of_getElem? (i := 1) rfl)) (va_Nw.use rfl (hT.2.2.2.1 _ (List.mem_of_getElem? (i := 2) rfl))) hcell hv hcl ?_
        refine lv_astore (lv' := [(4, .ref q9), (0, .ref (x 0)), (1, .int p0), (2, .int p1), (3, .ref oA)]) hx hb dL_fish_13 hl (by decide) rfl (fun ls hl => ?_)
        refine lv_iconst (v := 1) hx hb dL_fish_15 (by decide) ?_
        exact eH hx hb hr hlk hP hS dL_fish_16 (Nat.le_of_ble_eq_true rfl) (Nat.le_of_ble_eq_true rfl) rfl rfl
      · refine vx_catch hown [⟨0, 10, 13, 20⟩] ⟨0, 10, 17, 13⟩ [] htab (fun z hz => by
          simp only [List.mem_cons, List.not_mem_nil, or_false] at hz
          subst hz
          exact Or.inr ⟨by decide, "java/lang/IndexOutOfBoundsException", (hts (.classLink RL 20 "java/lang/IndexOutOfBoundsException") (List.mem_of_getElem? (i := 1) rfl)), hT.2.2.2.2.1 _ (List.mem_of_getElem? (i := 4) rfl)⟩) (by decide) (by decide) (hts (.classLink RL 13 "java/lang/IllegalArgumentException") (List.mem_of_getElem? (i := 2) rfl)) (va_Nw.use rfl (hT.2.2.2.1 _ (List.mem_of_getElem? (i := 0) rfl))) hcell hv hcl ?_
        refine lv_astore (lv' := [(4, .ref q9), (0, .ref (x 0)), (1, .int p0), (2, .int p1), (3, .ref oA)]) hx hb dL_fish_17 hl (by decide) rfl (fun ls hl => ?_)
        refine lv_iconst (v := 2) hx hb dL_fish_19 (by decide) ?_
        exact eH hx hb hr hlk hP hS dL_fish_20 (Nat.le_of_ble_eq_true rfl) (Nat.le_of_ble_eq_true rfl) rfl rfl
  · cases z with
    | inl E1 => cases ho
    | inr q =>
      cases ho
      obtain ⟨rfl, rfl⟩ := hz
      have hD := D_map hD (show List.map Prod.fst (wl cI a q.2.1 q.2.2 ++ (wl cI b J j ++ (xr cI a b x F ++ ((oA, .inl (cJ, 1, .inr (.inl O))) :: rs)))) = List.map Prod.fst (wl cI a G g ++ (wl cI b J j ++ (xr cI a b x F ++ ((oA, .inl (cJ, 1, .inr (.inl O))) :: rs)))) from rfl)
      refine lv_i2l hx hb dL_fish_8 rfl ?_
      refine va_last hx hb hK hP hD hS 59 1 rfl rfl (vp_in_nI (n := 0) (by decide) (by decide)) dL_fish_9 (fun H locs hP hD hS => ?_)
      refine lv_goto (tgt := 21) hx hb dL_fish_10 (by decide) ?_
      refine lv_iconst (v := 0) hx hb dL_fish_21 (by decide) ?_
      exact eH hx hb hr hlk hP hS dL_fish_22 (Nat.le_of_ble_eq_true rfl) (Nat.le_of_ble_eq_true rfl) rfl rfl
set_option maxHeartbeats 4000000 in
set_option maxRecDepth 100000 in
theorem c_L_audit (l : Launch) (hfl : l.stackTraces = false) (D : va_G) (cI cJ : ClassId) (a b x : Nat → Nat) (G : Nat → Nat → Int32) (g : Nat → Int32) (J : Nat → Nat → Int32) (j : Nat → Int32) (F : Nat → Int32) (p0 : Int32) (z : String ⊕ (Int32 × (Nat → Nat → Int32) × (Nat → Int32))) (oA : Nat) (O : Nat → Int64) (r : Int32) (w' : va_W) (rs : va_W) (h : fX5_audit G g p0 = some z) (hz : z.elim (fun E => ((E = IX ∧ r = 1)) ∧ wl cI a G g ++ (wl cI b J j ++ (xr cI a b x F ++ ((oA, .inl (cJ, 1, .inr (.inl O))) :: rs))) = w') (fun q => 0 = r ∧ wl cI a q.2.1 q.2.2 ++ (wl cI b J j ++ (xr cI a b x F ++ ((oA, .inl (cJ, 1, .inr (.inl (vp_updL O 0 q.1.toInt64)))) :: rs))) = w')) : Ch l yL_audit wsL_audit ({ frames := 7, cells := 1, slots := 6, locals := 112 } : Room) D cI cJ ([.ref (x 0), .int p0, .ref oA] : List Value) (wl cI a G g ++ (wl cI b J j ++ (xr cI a b x F ++ ((oA, .inl (cJ, 1, .inr (.inl O))) :: rs)))) r w' := by
  refine Ch.mk (cc := cL_audit) (maxL := 4) (ret := (some .int)) (hh := [(0, 9, 12, 20)]) (by decide) rfl (Nat.le_of_ble_eq_true rfl) ?_
  intro p e s m below meth c A ls B hr hlk htab hT hK hN hA hP hD hl
  obtain ⟨hx, hb, hml, hown, hts⟩ := id B
  have hS : va_S A s.heap s.heap [] := va_S.rf
  have hl : lv_has ls 4 [(0, .ref (x 0)), (1, .int p0), (2, .ref oA)] := hl
  refine lv_aload_n hx hb dL_audit_0 rfl (lv_at hl 2 rfl) ?_
  refine lv_iconst (v := 0) hx hb dL_audit_1 (by decide) ?_
  refine lv_aload_n hx hb dL_audit_2 rfl (lv_at hl 0 rfl) ?_
  refine lv_iload_n hx hb dL_audit_3 rfl (lv_at hl 1 rfl) ?_
  refine kVx (As := [.int p0]) (rest := [.int 0, .ref oA]) B hK hN hT hP hD hS hA (c_X5_audit l hfl D cI cJ a b x G g J j F p0 z ((oA, .inl (cJ, 1, .inr (.inl O))) :: rs) h) (cwV 1 hts gL_audit_X5_audit rfl rfl rfl (by decide +kernel) ⟨(Nat.le_of_ble_eq_true rfl), (Nat.le_of_ble_eq_true rfl)⟩) 8 56 rfl rfl rfl hl.1 rfl (Nat.le_of_ble_eq_true rfl) dL_audit_4 ⟨(Nat.le_of_ble_eq_true rfl), (Nat.le_of_ble_eq_true rfl)⟩ (fun E ce q9 H locs ho hP hD hS hcell hv hcl => ?_) (fun r1 W1 H locs ho hP hS => ?_)
  · cases z with
    | inr q => cases ho
    | inl E1 =>
      cases ho
      obtain ⟨hE, rfl⟩ := hz
      obtain ⟨rfl, rfl⟩ := hE
      refine vx_catch hown [] ⟨0, 9, 12, 20⟩ [] htab (fun z hz => nomatch hz) (by decide) (by decide) (hts (.classLink RL 20 "java/lang/IndexOutOfBoundsException") (List.mem_of_getElem? (i := 1) rfl)) (va_Nw.use rfl (hT.2.2.2.1 _ (List.mem_of_getElem? (i := 2) rfl))) hcell hv hcl ?_
      refine lv_astore_n (lv' := [(3, .ref q9), (0, .ref (x 0)), (1, .int p0), (2, .ref oA)]) hx hb dL_audit_12 rfl hl (by decide) rfl (fun ls hl => ?_)
      refine lv_iconst (v := 1) hx hb dL_audit_13 (by decide) ?_
      exact eH hx hb hr hlk hP hS dL_audit_14 (Nat.le_of_ble_eq_true rfl) (Nat.le_of_ble_eq_true rfl) rfl rfl
  · cases z with
    | inl E1 => cases ho
    | inr q =>
      cases ho
      obtain ⟨rfl, rfl⟩ := hz
      have hD := D_map hD (show List.map Prod.fst (wl cI a q.2.1 q.2.2 ++ (wl cI b J j ++ (xr cI a b x F ++ ((oA, .inl (cJ, 1, .inr (.inl O))) :: rs)))) = List.map Prod.fst (wl cI a G g ++ (wl cI b J j ++ (xr cI a b x F ++ ((oA, .inl (cJ, 1, .inr (.inl O))) :: rs)))) from rfl)
      refine lv_i2l hx hb dL_audit_7 rfl ?_
      refine va_last hx hb hK hP hD hS 59 1 rfl rfl (vp_in_nI (n := 0) (by decide) (by decide)) dL_audit_8 (fun H locs hP hD hS => ?_)
      refine lv_goto (tgt := 15) hx hb dL_audit_9 (by decide) ?_
      refine lv_iconst (v := 0) hx hb dL_audit_15 (by decide) ?_
      exact eH hx hb hr hlk hP hS dL_audit_16 (Nat.le_of_ble_eq_true rfl) (Nat.le_of_ble_eq_true rfl) rfl rfl
set_option maxHeartbeats 4000000 in
set_option maxRecDepth 100000 in
theorem c_L_missing (l : Launch) (hfl : l.stackTraces = false) (D : va_G) (cI cJ : ClassId) (a b x : Nat → Nat) (G : Nat → Nat → Int32) (g : Nat → Int32) (J : Nat → Nat → Int32) (j : Nat → Int32) (F : Nat → Int32) (p0 : Int32) (z : String ⊕ (Int32)) (oA : Nat) (O : Nat → Int64) (r : Int32) (w' : va_W) (rs : va_W) (h : fX5_missing G g p0 = some z) (hz : z.elim (fun E => ((E = IX ∧ r = 1)) ∧ wl cI a G g ++ (wl cI b J j ++ (xr cI a b x F ++ ((oA, .inl (cJ, 1, .inr (.inl O))) :: rs))) = w') (fun q => 0 = r ∧ wl cI a G g ++ (wl cI b J j ++ (xr cI a b x F ++ ((oA, .inl (cJ, 1, .inr (.inl (vp_updL O 0 q.toInt64)))) :: rs))) = w')) : Ch l yL_missing wsL_missing ({ frames := 7, cells := 1, slots := 6, locals := 109 } : Room) D cI cJ ([.ref (x 0), .int p0, .ref oA] : List Value) (wl cI a G g ++ (wl cI b J j ++ (xr cI a b x F ++ ((oA, .inl (cJ, 1, .inr (.inl O))) :: rs)))) r w' := by
  refine Ch.mk (cc := cL_missing) (maxL := 4) (ret := (some .int)) (hh := [(0, 9, 12, 20)]) (by decide) rfl (Nat.le_of_ble_eq_true rfl) ?_
  intro p e s m below meth c A ls B hr hlk htab hT hK hN hA hP hD hl
  obtain ⟨hx, hb, hml, hown, hts⟩ := id B
  have hS : va_S A s.heap s.heap [] := va_S.rf
  have hl : lv_has ls 4 [(0, .ref (x 0)), (1, .int p0), (2, .ref oA)] := hl
  refine lv_aload_n hx hb dL_missing_0 rfl (lv_at hl 2 rfl) ?_
  refine lv_iconst (v := 0) hx hb dL_missing_1 (by decide) ?_
  refine lv_aload_n hx hb dL_missing_2 rfl (lv_at hl 0 rfl) ?_
  refine lv_iload_n hx hb dL_missing_3 rfl (lv_at hl 1 rfl) ?_
  refine kVx (As := [.int p0]) (rest := [.int 0, .ref oA]) B hK hN hT hP hD hS hA (c_X5_missing l hfl D cI cJ a b x G g J j F p0 z ((oA, .inl (cJ, 1, .inr (.inl O))) :: rs) h) (cwV 1 hts gL_missing_X5_missing rfl rfl rfl (by decide +kernel) ⟨(Nat.le_of_ble_eq_true rfl), (Nat.le_of_ble_eq_true rfl)⟩) 8 56 rfl rfl rfl hl.1 rfl (Nat.le_of_ble_eq_true rfl) dL_missing_4 ⟨(Nat.le_of_ble_eq_true rfl), (Nat.le_of_ble_eq_true rfl)⟩ (fun E ce q9 H locs ho hP hD hS hcell hv hcl => ?_) (fun r1 W1 H locs ho hP hS => ?_)
  · cases z with
    | inr q => cases ho
    | inl E1 =>
      cases ho
      obtain ⟨hE, rfl⟩ := hz
      obtain ⟨rfl, rfl⟩ := hE
      refine vx_catch hown [] ⟨0, 9, 12, 20⟩ [] htab (fun z hz => nomatch hz) (by decide) (by decide) (hts (.classLink RL 20 "java/lang/IndexOutOfBoundsException") (List.mem_of_getElem? (i := 1) rfl)) (va_Nw.use rfl (hT.2.2.2.1 _ (List.mem_of_getElem? (i := 2) rfl))) hcell hv hcl ?_
      refine lv_astore_n (lv' := [(3, .ref q9), (0, .ref (x 0)), (1, .int p0), (2, .ref oA)]) hx hb dL_missing_12 rfl hl (by decide) rfl (fun ls hl => ?_)
      refine lv_iconst (v := 1) hx hb dL_missing_13 (by decide) ?_
      exact eH hx hb hr hlk hP hS dL_missing_14 (Nat.le_of_ble_eq_true rfl) (Nat.le_of_ble_eq_true rfl) rfl rfl
  · cases z with
    | inl E1 => cases ho
    | inr q =>
      cases ho
      obtain ⟨rfl, rfl⟩ := hz
      have hD := D_map hD (show List.map Prod.fst (wl cI a G g ++ (wl cI b J j ++ (xr cI a b x F ++ ((oA, .inl (cJ, 1, .inr (.inl O))) :: rs)))) = List.map Prod.fst (wl cI a G g ++ (wl cI b J j ++ (xr cI a b x F ++ ((oA, .inl (cJ, 1, .inr (.inl O))) :: rs)))) from rfl)
      refine lv_i2l hx hb dL_missing_7 rfl ?_
      refine va_last hx hb hK hP hD hS 59 1 rfl rfl (vp_in_nI (n := 0) (by decide) (by decide)) dL_missing_8 (fun H locs hP hD hS => ?_)
      refine lv_goto (tgt := 15) hx hb dL_missing_9 (by decide) ?_
      refine lv_iconst (v := 0) hx hb dL_missing_15 (by decide) ?_
      exact eH hx hb hr hlk hP hS dL_missing_16 (Nat.le_of_ble_eq_true rfl) (Nat.le_of_ble_eq_true rfl) rfl rfl
set_option maxHeartbeats 4000000 in
set_option maxRecDepth 100000 in
theorem c_L_land (l : Launch) (hfl : l.stackTraces = false) (D : va_G) (cI cJ : ClassId) (a b x : Nat → Nat) (G : Nat → Nat → Int32) (g : Nat → Int32) (J : Nat → Nat → Int32) (j : Nat → Int32) (F : Nat → Int32) (p0 p1 : Int32) (z : String ⊕ (Int32)) (oA : Nat) (O : Nat → Int64) (r : Int32) (w' : va_W) (rs : va_W) (h : fX5_land G g p0 p1 = some z) (hz : z.elim (fun E => ((E = IX ∧ r = 1)) ∧ wl cI a G g ++ (wl cI b J j ++ (xr cI a b x F ++ ((oA, .inl (cJ, 1, .inr (.inl O))) :: rs))) = w') (fun q => 0 = r ∧ wl cI a G g ++ (wl cI b J j ++ (xr cI a b x F ++ ((oA, .inl (cJ, 1, .inr (.inl (vp_updL O 0 q.toInt64)))) :: rs))) = w')) : Ch l yL_land wsL_land ({ frames := 7, cells := 1, slots := 6, locals := 111 } : Room) D cI cJ ([.ref (x 0), .int p0, .int p1, .ref oA] : List Value) (wl cI a G g ++ (wl cI b J j ++ (xr cI a b x F ++ ((oA, .inl (cJ, 1, .inr (.inl O))) :: rs)))) r w' := by
  refine Ch.mk (cc := cL_land) (maxL := 5) (ret := (some .int)) (hh := [(0, 10, 13, 20)]) (by decide) rfl (Nat.le_of_ble_eq_true rfl) ?_
  intro p e s m below meth c A ls B hr hlk htab hT hK hN hA hP hD hl
  obtain ⟨hx, hb, hml, hown, hts⟩ := id B
  have hS : va_S A s.heap s.heap [] := va_S.rf
  have hl : lv_has ls 5 [(0, .ref (x 0)), (1, .int p0), (2, .int p1), (3, .ref oA)] := hl
  refine lv_aload_n hx hb dL_land_0 rfl (lv_at hl 3 rfl) ?_
  refine lv_iconst (v := 0) hx hb dL_land_1 (by decide) ?_
  refine lv_aload_n hx hb dL_land_2 rfl (lv_at hl 0 rfl) ?_
  refine lv_iload_n hx hb dL_land_3 rfl (lv_at hl 1 rfl) ?_
  refine lv_iload_n hx hb dL_land_4 rfl (lv_at hl 2 rfl) ?_
  refine kVx (As := [.int p0, .int p1]) (rest := [.int 0, .ref oA]) B hK hN hT hP hD hS hA (c_X5_land l hfl D cI cJ a b x G g J j F p0 p1 z ((oA, .inl (cJ, 1, .inr (.inl O))) :: rs) h) (cwV 2 hts gL_land_X5_land rfl rfl rfl (by decide +kernel) ⟨(Nat.le_of_ble_eq_true rfl), (Nat.le_of_ble_eq_true rfl)⟩) 8 56 rfl rfl rfl hl.1 rfl (Nat.le_of_ble_eq_true rfl) dL_land_5 ⟨(Nat.le_of_ble_eq_true rfl), (Nat.le_of_ble_eq_true rfl)⟩ (fun E ce q9 H locs ho hP hD hS hcell hv hcl => ?_) (fun r1 W1 H locs ho hP hS => ?_)
  · cases z with
    | inr q => cases ho
    | inl E1 =>
      cases ho
      obtain ⟨hE, rfl⟩ := hz
      obtain ⟨rfl, rfl⟩ := hE
      refine vx_catch hown [] ⟨0, 10, 13, 20⟩ [] htab (fun z hz => nomatch hz) (by decide) (by decide) (hts (.classLink RL 20 "java/lang/IndexOutOfBoundsException") (List.mem_of_getElem? (i := 1) rfl)) (va_Nw.use rfl (hT.2.2.2.1 _ (List.mem_of_getElem? (i := 2) rfl))) hcell hv hcl ?_
      refine lv_astore (lv' := [(4, .ref q9), (0, .ref (x 0)), (1, .int p0), (2, .int p1), (3, .ref oA)]) hx hb dL_land_13 hl (by decide) rfl (fun ls hl => ?_)
      refine lv_iconst (v := 1) hx hb dL_land_15 (by decide) ?_
      exact eH hx hb hr hlk hP hS dL_land_16 (Nat.le_of_ble_eq_true rfl) (Nat.le_of_ble_eq_true rfl) rfl rfl
  · cases z with
    | inl E1 => cases ho
    | inr q =>
      cases ho
      obtain ⟨rfl, rfl⟩ := hz
      have hD := D_map hD (show List.map Prod.fst (wl cI a G g ++ (wl cI b J j ++ (xr cI a b x F ++ ((oA, .inl (cJ, 1, .inr (.inl O))) :: rs)))) = List.map Prod.fst (wl cI a G g ++ (wl cI b J j ++ (xr cI a b x F ++ ((oA, .inl (cJ, 1, .inr (.inl O))) :: rs)))) from rfl)
      refine lv_i2l hx hb dL_land_8 rfl ?_
      refine va_last hx hb hK hP hD hS 59 1 rfl rfl (vp_in_nI (n := 0) (by decide) (by decide)) dL_land_9 (fun H locs hP hD hS => ?_)
      refine lv_goto (tgt := 17) hx hb dL_land_10 (by decide) ?_
      refine lv_iconst (v := 0) hx hb dL_land_17 (by decide) ?_
      exact eH hx hb hr hlk hP hS dL_land_18 (Nat.le_of_ble_eq_true rfl) (Nat.le_of_ble_eq_true rfl) rfl rfl
set_option maxHeartbeats 4000000 in
set_option maxRecDepth 100000 in
theorem c_L_coins (l : Launch) (hfl : l.stackTraces = false) (D : va_G) (cI cJ : ClassId) (a b x : Nat → Nat) (G : Nat → Nat → Int32) (g : Nat → Int32) (J : Nat → Nat → Int32) (j : Nat → Int32) (F : Nat → Int32) (p0 p1 : Int32) (z : String ⊕ (Int32)) (oA : Nat) (O : Nat → Int64) (r : Int32) (w' : va_W) (rs : va_W) (h : fX5_coins G g p0 p1 = some z) (hz : z.elim (fun E => ((E = IX ∧ r = 1)) ∧ wl cI a G g ++ (wl cI b J j ++ (xr cI a b x F ++ ((oA, .inl (cJ, 1, .inr (.inl O))) :: rs))) = w') (fun q => 0 = r ∧ wl cI a G g ++ (wl cI b J j ++ (xr cI a b x F ++ ((oA, .inl (cJ, 1, .inr (.inl (vp_updL O 0 q.toInt64)))) :: rs))) = w')) : Ch l yL_coins wsL_coins ({ frames := 7, cells := 1, slots := 6, locals := 104 } : Room) D cI cJ ([.ref (x 0), .int p0, .int p1, .ref oA] : List Value) (wl cI a G g ++ (wl cI b J j ++ (xr cI a b x F ++ ((oA, .inl (cJ, 1, .inr (.inl O))) :: rs)))) r w' := by
  refine Ch.mk (cc := cL_coins) (maxL := 5) (ret := (some .int)) (hh := [(0, 10, 13, 20)]) (by decide) rfl (Nat.le_of_ble_eq_true rfl) ?_
  intro p e s m below meth c A ls B hr hlk htab hT hK hN hA hP hD hl
  obtain ⟨hx, hb, hml, hown, hts⟩ := id B
  have hS : va_S A s.heap s.heap [] := va_S.rf
  have hl : lv_has ls 5 [(0, .ref (x 0)), (1, .int p0), (2, .int p1), (3, .ref oA)] := hl
  refine lv_aload_n hx hb dL_coins_0 rfl (lv_at hl 3 rfl) ?_
  refine lv_iconst (v := 0) hx hb dL_coins_1 (by decide) ?_
  refine lv_aload_n hx hb dL_coins_2 rfl (lv_at hl 0 rfl) ?_
  refine lv_iload_n hx hb dL_coins_3 rfl (lv_at hl 1 rfl) ?_
  refine lv_iload_n hx hb dL_coins_4 rfl (lv_at hl 2 rfl) ?_
  refine kVx (As := [.int p0, .int p1]) (rest := [.int 0, .ref oA]) B hK hN hT hP hD hS hA (c_X5_coins l hfl D cI cJ a b x G g J j F p0 p1 z ((oA, .inl (cJ, 1, .inr (.inl O))) :: rs) h) (cwV 2 hts gL_coins_X5_coins rfl rfl rfl (by decide +kernel) ⟨(Nat.le_of_ble_eq_true rfl), (Nat.le_of_ble_eq_true rfl)⟩) 8 56 rfl rfl rfl hl.1 rfl (Nat.le_of_ble_eq_true rfl) dL_coins_5 ⟨(Nat.le_of_ble_eq_true rfl), (Nat.le_of_ble_eq_true rfl)⟩ (fun E ce q9 H locs ho hP hD hS hcell hv hcl => ?_) (fun r1 W1 H locs ho hP hS => ?_)
  · cases z with
    | inr q => cases ho
    | inl E1 =>
      cases ho
      obtain ⟨hE, rfl⟩ := hz
      obtain ⟨rfl, rfl⟩ := hE
      refine vx_catch hown [] ⟨0, 10, 13, 20⟩ [] htab (fun z hz => nomatch hz) (by decide) (by decide) (hts (.classLink RL 20 "java/lang/IndexOutOfBoundsException") (List.mem_of_getElem? (i := 1) rfl)) (va_Nw.use rfl (hT.2.2.2.1 _ (List.mem_of_getElem? (i := 2) rfl))) hcell hv hcl ?_
      refine lv_astore (lv' := [(4, .ref q9), (0, .ref (x 0)), (1, .int p0), (2, .int p1), (3, .ref oA)]) hx hb dL_coins_13 hl (by decide) rfl (fun ls hl => ?_)
      refine lv_iconst (v := 1) hx hb dL_coins_15 (by decide) ?_
      exact eH hx hb hr hlk hP hS dL_coins_16 (Nat.le_of_ble_eq_true rfl) (Nat.le_of_ble_eq_true rfl) rfl rfl
  · cases z with
    | inl E1 => cases ho
    | inr q =>
      cases ho
      obtain ⟨rfl, rfl⟩ := hz
      have hD := D_map hD (show List.map Prod.fst (wl cI a G g ++ (wl cI b J j ++ (xr cI a b x F ++ ((oA, .inl (cJ, 1, .inr (.inl O))) :: rs)))) = List.map Prod.fst (wl cI a G g ++ (wl cI b J j ++ (xr cI a b x F ++ ((oA, .inl (cJ, 1, .inr (.inl O))) :: rs)))) from rfl)
      refine lv_i2l hx hb dL_coins_8 rfl ?_
      refine va_last hx hb hK hP hD hS 59 1 rfl rfl (vp_in_nI (n := 0) (by decide) (by decide)) dL_coins_9 (fun H locs hP hD hS => ?_)
      refine lv_goto (tgt := 17) hx hb dL_coins_10 (by decide) ?_
      refine lv_iconst (v := 0) hx hb dL_coins_17 (by decide) ?_
      exact eH hx hb hr hlk hP hS dL_coins_18 (Nat.le_of_ble_eq_true rfl) (Nat.le_of_ble_eq_true rfl) rfl rfl
set_option maxHeartbeats 4000000 in
set_option maxRecDepth 100000 in
theorem c_L_told (l : Launch) (hfl : l.stackTraces = false) (D : va_G) (cI cJ : ClassId) (a b x : Nat → Nat) (G : Nat → Nat → Int32) (g : Nat → Int32) (J : Nat → Nat → Int32) (j : Nat → Int32) (F : Nat → Int32) (p0 p1 : Int32) (z : String ⊕ (Int32)) (oA : Nat) (O : Nat → Int64) (r : Int32) (w' : va_W) (rs : va_W) (h : fX5_told G g p0 p1 = some z) (hz : z.elim (fun E => ((E = IX ∧ r = 1)) ∧ wl cI a G g ++ (wl cI b J j ++ (xr cI a b x F ++ ((oA, .inl (cJ, 1, .inr (.inl O))) :: rs))) = w') (fun q => 0 = r ∧ wl cI a G g ++ (wl cI b J j ++ (xr cI a b x F ++ ((oA, .inl (cJ, 1, .inr (.inl (vp_updL O 0 q.toInt64)))) :: rs))) = w')) : Ch l yL_told wsL_told ({ frames := 7, cells := 1, slots := 6, locals := 104 } : Room) D cI cJ ([.ref (x 0), .int p0, .int p1, .ref oA] : List Value) (wl cI a G g ++ (wl cI b J j ++ (xr cI a b x F ++ ((oA, .inl (cJ, 1, .inr (.inl O))) :: rs)))) r w' := by
  refine Ch.mk (cc := cL_told) (maxL := 5) (ret := (some .int)) (hh := [(0, 10, 13, 20)]) (by decide) rfl (Nat.le_of_ble_eq_true rfl) ?_
  intro p e s m below meth c A ls B hr hlk htab hT hK hN hA hP hD hl
  obtain ⟨hx, hb, hml, hown, hts⟩ := id B
  have hS : va_S A s.heap s.heap [] := va_S.rf
  have hl : lv_has ls 5 [(0, .ref (x 0)), (1, .int p0), (2, .int p1), (3, .ref oA)] := hl
  refine lv_aload_n hx hb dL_told_0 rfl (lv_at hl 3 rfl) ?_
  refine lv_iconst (v := 0) hx hb dL_told_1 (by decide) ?_
  refine lv_aload_n hx hb dL_told_2 rfl (lv_at hl 0 rfl) ?_
  refine lv_iload_n hx hb dL_told_3 rfl (lv_at hl 1 rfl) ?_
  refine lv_iload_n hx hb dL_told_4 rfl (lv_at hl 2 rfl) ?_
  refine kVx (As := [.int p0, .int p1]) (rest := [.int 0, .ref oA]) B hK hN hT hP hD hS hA (c_X5_told l hfl D cI cJ a b x G g J j F p0 p1 z ((oA, .inl (cJ, 1, .inr (.inl O))) :: rs) h) (cwV 2 hts gL_told_X5_told rfl rfl rfl (by decide +kernel) ⟨(Nat.le_of_ble_eq_true rfl), (Nat.le_of_ble_eq_true rfl)⟩) 8 56 rfl rfl rfl hl.1 rfl (Nat.le_of_ble_eq_true rfl) dL_told_5 ⟨(Nat.le_of_ble_eq_true rfl), (Nat.le_of_ble_eq_true rfl)⟩ (fun E ce q9 H locs ho hP hD hS hcell hv hcl => ?_) (fun r1 W1 H locs ho hP hS => ?_)
  · cases z with
    | inr q => cases ho
    | inl E1 =>
      cases ho
      obtain ⟨hE, rfl⟩ := hz
      obtain ⟨rfl, rfl⟩ := hE
      refine vx_catch hown [] ⟨0, 10, 13, 20⟩ [] htab (fun z hz => nomatch hz) (by decide) (by decide) (hts (.classLink RL 20 "java/lang/IndexOutOfBoundsException") (List.mem_of_getElem? (i := 1) rfl)) (va_Nw.use rfl (hT.2.2.2.1 _ (List.mem_of_getElem? (i := 2) rfl))) hcell hv hcl ?_
      refine lv_astore (lv' := [(4, .ref q9), (0, .ref (x 0)), (1, .int p0), (2, .int p1), (3, .ref oA)]) hx hb dL_told_13 hl (by decide) rfl (fun ls hl => ?_)
      refine lv_iconst (v := 1) hx hb dL_told_15 (by decide) ?_
      exact eH hx hb hr hlk hP hS dL_told_16 (Nat.le_of_ble_eq_true rfl) (Nat.le_of_ble_eq_true rfl) rfl rfl
  · cases z with
    | inl E1 => cases ho
    | inr q =>
      cases ho
      obtain ⟨rfl, rfl⟩ := hz
      have hD := D_map hD (show List.map Prod.fst (wl cI a G g ++ (wl cI b J j ++ (xr cI a b x F ++ ((oA, .inl (cJ, 1, .inr (.inl O))) :: rs)))) = List.map Prod.fst (wl cI a G g ++ (wl cI b J j ++ (xr cI a b x F ++ ((oA, .inl (cJ, 1, .inr (.inl O))) :: rs)))) from rfl)
      refine lv_i2l hx hb dL_told_8 rfl ?_
      refine va_last hx hb hK hP hD hS 59 1 rfl rfl (vp_in_nI (n := 0) (by decide) (by decide)) dL_told_9 (fun H locs hP hD hS => ?_)
      refine lv_goto (tgt := 17) hx hb dL_told_10 (by decide) ?_
      refine lv_iconst (v := 0) hx hb dL_told_17 (by decide) ?_
      exact eH hx hb hr hlk hP hS dL_told_18 (Nat.le_of_ble_eq_true rfl) (Nat.le_of_ble_eq_true rfl) rfl rfl
set_option maxHeartbeats 4000000 in
set_option maxRecDepth 100000 in
theorem c_L_count (l : Launch) (hfl : l.stackTraces = false) (D : va_G) (cI cJ : ClassId) (a b x : Nat → Nat) (G : Nat → Nat → Int32) (g : Nat → Int32) (J : Nat → Nat → Int32) (j : Nat → Int32) (F : Nat → Int32) (p0 : Int32) (z : String ⊕ (Int32)) (oA : Nat) (O : Nat → Int64) (r : Int32) (w' : va_W) (rs : va_W) (h : fX5_count G g p0 = some z) (hz : z.elim (fun E => ((E = IX ∧ r = 1)) ∧ wl cI a G g ++ (wl cI b J j ++ (xr cI a b x F ++ ((oA, .inl (cJ, 1, .inr (.inl O))) :: rs))) = w') (fun q => 0 = r ∧ wl cI a G g ++ (wl cI b J j ++ (xr cI a b x F ++ ((oA, .inl (cJ, 1, .inr (.inl (vp_updL O 0 q.toInt64)))) :: rs))) = w')) : Ch l yL_count wsL_count ({ frames := 7, cells := 1, slots := 6, locals := 131 } : Room) D cI cJ ([.ref (x 0), .int p0, .ref oA] : List Value) (wl cI a G g ++ (wl cI b J j ++ (xr cI a b x F ++ ((oA, .inl (cJ, 1, .inr (.inl O))) :: rs)))) r w' := by
  refine Ch.mk (cc := cL_count) (maxL := 4) (ret := (some .int)) (hh := [(0, 9, 12, 20)]) (by decide) rfl (Nat.le_of_ble_eq_true rfl) ?_
  intro p e s m below meth c A ls B hr hlk htab hT hK hN hA hP hD hl
  obtain ⟨hx, hb, hml, hown, hts⟩ := id B
  have hS : va_S A s.heap s.heap [] := va_S.rf
  have hl : lv_has ls 4 [(0, .ref (x 0)), (1, .int p0), (2, .ref oA)] := hl
  refine lv_aload_n hx hb dL_count_0 rfl (lv_at hl 2 rfl) ?_
  refine lv_iconst (v := 0) hx hb dL_count_1 (by decide) ?_
  refine lv_aload_n hx hb dL_count_2 rfl (lv_at hl 0 rfl) ?_
  refine lv_iload_n hx hb dL_count_3 rfl (lv_at hl 1 rfl) ?_
  refine kVx (As := [.int p0]) (rest := [.int 0, .ref oA]) B hK hN hT hP hD hS hA (c_X5_count l hfl D cI cJ a b x G g J j F p0 z ((oA, .inl (cJ, 1, .inr (.inl O))) :: rs) h) (cwV 1 hts gL_count_X5_count rfl rfl rfl (by decide +kernel) ⟨(Nat.le_of_ble_eq_true rfl), (Nat.le_of_ble_eq_true rfl)⟩) 8 56 rfl rfl rfl hl.1 rfl (Nat.le_of_ble_eq_true rfl) dL_count_4 ⟨(Nat.le_of_ble_eq_true rfl), (Nat.le_of_ble_eq_true rfl)⟩ (fun E ce q9 H locs ho hP hD hS hcell hv hcl => ?_) (fun r1 W1 H locs ho hP hS => ?_)
  · cases z with
    | inr q => cases ho
    | inl E1 =>
      cases ho
      obtain ⟨hE, rfl⟩ := hz
      obtain ⟨rfl, rfl⟩ := hE
      refine vx_catch hown [] ⟨0, 9, 12, 20⟩ [] htab (fun z hz => nomatch hz) (by decide) (by decide) (hts (.classLink RL 20 "java/lang/IndexOutOfBoundsException") (List.mem_of_getElem? (i := 1) rfl)) (va_Nw.use rfl (hT.2.2.2.1 _ (List.mem_of_getElem? (i := 2) rfl))) hcell hv hcl ?_
      refine lv_astore_n (lv' := [(3, .ref q9), (0, .ref (x 0)), (1, .int p0), (2, .ref oA)]) hx hb dL_count_12 rfl hl (by decide) rfl (fun ls hl => ?_)
      refine lv_iconst (v := 1) hx hb dL_count_13 (by decide) ?_
      exact eH hx hb hr hlk hP hS dL_count_14 (Nat.le_of_ble_eq_true rfl) (Nat.le_of_ble_eq_true rfl) rfl rfl
  · cases z with
    | inl E1 => cases ho
    | inr q =>
      cases ho
      obtain ⟨rfl, rfl⟩ := hz
      have hD := D_map hD (show List.map Prod.fst (wl cI a G g ++ (wl cI b J j ++ (xr cI a b x F ++ ((oA, .inl (cJ, 1, .inr (.inl O))) :: rs)))) = List.map Prod.fst (wl cI a G g ++ (wl cI b J j ++ (xr cI a b x F ++ ((oA, .inl (cJ, 1, .inr (.inl O))) :: rs)))) from rfl)
      refine lv_i2l hx hb dL_count_7 rfl ?_
      refine va_last hx hb hK hP hD hS 59 1 rfl rfl (vp_in_nI (n := 0) (by decide) (by decide)) dL_count_8 (fun H locs hP hD hS => ?_)
      refine lv_goto (tgt := 15) hx hb dL_count_9 (by decide) ?_
      refine lv_iconst (v := 0) hx hb dL_count_15 (by decide) ?_
      exact eH hx hb hr hlk hP hS dL_count_16 (Nat.le_of_ble_eq_true rfl) (Nat.le_of_ble_eq_true rfl) rfl rfl
set_option maxHeartbeats 4000000 in
set_option maxRecDepth 100000 in
theorem c_L_pass (l : Launch) (hfl : l.stackTraces = false) (D : va_G) (cI cJ : ClassId) (a b x : Nat → Nat) (G : Nat → Nat → Int32) (g : Nat → Int32) (J : Nat → Nat → Int32) (j : Nat → Int32) (F : Nat → Int32) (p0 : Int32) (z : String ⊕ (Int32 × (Nat → Nat → Int32) × (Nat → Int32))) (oA : Nat) (O : Nat → Int64) (r : Int32) (w' : va_W) (rs : va_W) (h : fX5_pass G g p0 = some z) (hz : z.elim (fun E => ((E = IA ∧ r = 1)) ∧ wl cI a G g ++ (wl cI b J j ++ (xr cI a b x F ++ ((oA, .inl (cJ, 1, .inr (.inl O))) :: rs))) = w') (fun q => 0 = r ∧ wl cI a q.2.1 q.2.2 ++ (wl cI b J j ++ (xr cI a b x F ++ ((oA, .inl (cJ, 1, .inr (.inl (vp_updL O 0 q.1.toInt64)))) :: rs))) = w')) : Ch l yL_pass wsL_pass ({ frames := 7, cells := 1, slots := 6, locals := 155 } : Room) D cI cJ ([.ref (x 0), .int p0, .ref oA] : List Value) (wl cI a G g ++ (wl cI b J j ++ (xr cI a b x F ++ ((oA, .inl (cJ, 1, .inr (.inl O))) :: rs)))) r w' := by
  refine Ch.mk (cc := cL_pass) (maxL := 4) (ret := (some .int)) (hh := [(0, 9, 12, 13)]) (by decide) rfl (Nat.le_of_ble_eq_true rfl) ?_
  intro p e s m below meth c A ls B hr hlk htab hT hK hN hA hP hD hl
  obtain ⟨hx, hb, hml, hown, hts⟩ := id B
  have hS : va_S A s.heap s.heap [] := va_S.rf
  have hl : lv_has ls 4 [(0, .ref (x 0)), (1, .int p0), (2, .ref oA)] := hl
  refine lv_aload_n hx hb dL_pass_0 rfl (lv_at hl 2 rfl) ?_
  refine lv_iconst (v := 0) hx hb dL_pass_1 (by decide) ?_
  refine lv_aload_n hx hb dL_pass_2 rfl (lv_at hl 0 rfl) ?_
  refine lv_iload_n hx hb dL_pass_3 rfl (lv_at hl 1 rfl) ?_
  refine kVx (As := [.int p0]) (rest := [.int 0, .ref oA]) B hK hN hT hP hD hS hA (c_X5_pass l hfl D cI cJ a b x G g J j F p0 z ((oA, .inl (cJ, 1, .inr (.inl O))) :: rs) h) (cwV 1 hts gL_pass_X5_pass rfl rfl rfl (by decide +kernel) ⟨(Nat.le_of_ble_eq_true rfl), (Nat.le_of_ble_eq_true rfl)⟩) 8 56 rfl rfl rfl hl.1 rfl (Nat.le_of_ble_eq_true rfl) dL_pass_4 ⟨(Nat.le_of_ble_eq_true rfl), (Nat.le_of_ble_eq_true rfl)⟩ (fun E ce q9 H locs ho hP hD hS hcell hv hcl => ?_) (fun r1 W1 H locs ho hP hS => ?_)
  · cases z with
    | inr q => cases ho
    | inl E1 =>
      cases ho
      obtain ⟨hE, rfl⟩ := hz
      obtain ⟨rfl, rfl⟩ := hE
      refine vx_catch hown [] ⟨0, 9, 12, 13⟩ [] htab (fun z hz => nomatch hz) (by decide) (by decide) (hts (.classLink RL 13 "java/lang/IllegalArgumentException") (List.mem_of_getElem? (i := 1) rfl)) (va_Nw.use rfl (hT.2.2.2.1 _ (List.mem_of_getElem? (i := 0) rfl))) hcell hv hcl ?_
      refine lv_astore_n (lv' := [(3, .ref q9), (0, .ref (x 0)), (1, .int p0), (2, .ref oA)]) hx hb dL_pass_12 rfl hl (by decide) rfl (fun ls hl => ?_)
      refine lv_iconst (v := 1) hx hb dL_pass_13 (by decide) ?_
      exact eH hx hb hr hlk hP hS dL_pass_14 (Nat.le_of_ble_eq_true rfl) (Nat.le_of_ble_eq_true rfl) rfl rfl
  · cases z with
    | inl E1 => cases ho
    | inr q =>
      cases ho
      obtain ⟨rfl, rfl⟩ := hz
      have hD := D_map hD (show List.map Prod.fst (wl cI a q.2.1 q.2.2 ++ (wl cI b J j ++ (xr cI a b x F ++ ((oA, .inl (cJ, 1, .inr (.inl O))) :: rs)))) = List.map Prod.fst (wl cI a G g ++ (wl cI b J j ++ (xr cI a b x F ++ ((oA, .inl (cJ, 1, .inr (.inl O))) :: rs)))) from rfl)
      refine lv_i2l hx hb dL_pass_7 rfl ?_
      refine va_last hx hb hK hP hD hS 59 1 rfl rfl (vp_in_nI (n := 0) (by decide) (by decide)) dL_pass_8 (fun H locs hP hD hS => ?_)
      refine lv_goto (tgt := 15) hx hb dL_pass_9 (by decide) ?_
      refine lv_iconst (v := 0) hx hb dL_pass_15 (by decide) ?_
      exact eH hx hb hr hlk hP hS dL_pass_16 (Nat.le_of_ble_eq_true rfl) (Nat.le_of_ble_eq_true rfl) rfl rfl
set_option maxHeartbeats 4000000 in
set_option maxRecDepth 100000 in
theorem c_L_next (l : Launch) (hfl : l.stackTraces = false) (D : va_G) (cI cJ : ClassId) (a b x : Nat → Nat) (G : Nat → Nat → Int32) (g : Nat → Int32) (J : Nat → Nat → Int32) (j : Nat → Int32) (F : Nat → Int32) (p0 : Int32) (z : String ⊕ (Int32)) (oA : Nat) (O : Nat → Int64) (r : Int32) (w' : va_W) (rs : va_W) (h : fX5_next G g p0 = some z) (hz : z.elim (fun E => ((E = IX ∧ r = 1)) ∧ wl cI a G g ++ (wl cI b J j ++ (xr cI a b x F ++ ((oA, .inl (cJ, 1, .inr (.inl O))) :: rs))) = w') (fun q => 0 = r ∧ wl cI a G g ++ (wl cI b J j ++ (xr cI a b x F ++ ((oA, .inl (cJ, 1, .inr (.inl (vp_updL O 0 q.toInt64)))) :: rs))) = w')) : Ch l yL_next wsL_next ({ frames := 7, cells := 1, slots := 6, locals := 103 } : Room) D cI cJ ([.ref (x 0), .int p0, .ref oA] : List Value) (wl cI a G g ++ (wl cI b J j ++ (xr cI a b x F ++ ((oA, .inl (cJ, 1, .inr (.inl O))) :: rs)))) r w' := by
  refine Ch.mk (cc := cL_next) (maxL := 4) (ret := (some .int)) (hh := [(0, 9, 12, 20)]) (by decide) rfl (Nat.le_of_ble_eq_true rfl) ?_
  intro p e s m below meth c A ls B hr hlk htab hT hK hN hA hP hD hl
  obtain ⟨hx, hb, hml, hown, hts⟩ := id B
  have hS : va_S A s.heap s.heap [] := va_S.rf
  have hl : lv_has ls 4 [(0, .ref (x 0)), (1, .int p0), (2, .ref oA)] := hl
  refine lv_aload_n hx hb dL_next_0 rfl (lv_at hl 2 rfl) ?_
  refine lv_iconst (v := 0) hx hb dL_next_1 (by decide) ?_
  refine lv_aload_n hx hb dL_next_2 rfl (lv_at hl 0 rfl) ?_
  refine lv_iload_n hx hb dL_next_3 rfl (lv_at hl 1 rfl) ?_
  refine kVx (As := [.int p0]) (rest := [.int 0, .ref oA]) B hK hN hT hP hD hS hA (c_X5_next l hfl D cI cJ a b x G g J j F p0 z ((oA, .inl (cJ, 1, .inr (.inl O))) :: rs) h) (cwV 1 hts gL_next_X5_next rfl rfl rfl (by decide +kernel) ⟨(Nat.le_of_ble_eq_true rfl), (Nat.le_of_ble_eq_true rfl)⟩) 8 56 rfl rfl rfl hl.1 rfl (Nat.le_of_ble_eq_true rfl) dL_next_4 ⟨(Nat.le_of_ble_eq_true rfl), (Nat.le_of_ble_eq_true rfl)⟩ (fun E ce q9 H locs ho hP hD hS hcell hv hcl => ?_) (fun r1 W1 H locs ho hP hS => ?_)
  · cases z with
    | inr q => cases ho
    | inl E1 =>
      cases ho
      obtain ⟨hE, rfl⟩ := hz
      obtain ⟨rfl, rfl⟩ := hE
      refine vx_catch hown [] ⟨0, 9, 12, 20⟩ [] htab (fun z hz => nomatch hz) (by decide) (by decide) (hts (.classLink RL 20 "java/lang/IndexOutOfBoundsException") (List.mem_of_getElem? (i := 1) rfl)) (va_Nw.use rfl (hT.2.2.2.1 _ (List.mem_of_getElem? (i := 2) rfl))) hcell hv hcl ?_
      refine lv_astore_n (lv' := [(3, .ref q9), (0, .ref (x 0)), (1, .int p0), (2, .ref oA)]) hx hb dL_next_12 rfl hl (by decide) rfl (fun ls hl => ?_)
      refine lv_iconst (v := 1) hx hb dL_next_13 (by decide) ?_
      exact eH hx hb hr hlk hP hS dL_next_14 (Nat.le_of_ble_eq_true rfl) (Nat.le_of_ble_eq_true rfl) rfl rfl
  · cases z with
    | inl E1 => cases ho
    | inr q =>
      cases ho
      obtain ⟨rfl, rfl⟩ := hz
      have hD := D_map hD (show List.map Prod.fst (wl cI a G g ++ (wl cI b J j ++ (xr cI a b x F ++ ((oA, .inl (cJ, 1, .inr (.inl O))) :: rs)))) = List.map Prod.fst (wl cI a G g ++ (wl cI b J j ++ (xr cI a b x F ++ ((oA, .inl (cJ, 1, .inr (.inl O))) :: rs)))) from rfl)
      refine lv_i2l hx hb dL_next_7 rfl ?_
      refine va_last hx hb hK hP hD hS 59 1 rfl rfl (vp_in_nI (n := 0) (by decide) (by decide)) dL_next_8 (fun H locs hP hD hS => ?_)
      refine lv_goto (tgt := 15) hx hb dL_next_9 (by decide) ?_
      refine lv_iconst (v := 0) hx hb dL_next_15 (by decide) ?_
      exact eH hx hb hr hlk hP hS dL_next_16 (Nat.le_of_ble_eq_true rfl) (Nat.le_of_ble_eq_true rfl) rfl rfl
set_option maxHeartbeats 4000000 in
set_option maxRecDepth 100000 in
theorem c_L_waits (l : Launch) (hfl : l.stackTraces = false) (D : va_G) (cI cJ : ClassId) (a b x : Nat → Nat) (G : Nat → Nat → Int32) (g : Nat → Int32) (J : Nat → Nat → Int32) (j : Nat → Int32) (F : Nat → Int32) (p0 : Int32) (z : String ⊕ (Int32 × (Nat → Nat → Int32) × (Nat → Int32))) (oA : Nat) (O : Nat → Int64) (r : Int32) (w' : va_W) (rs : va_W) (h : fX5_waits G g J j p0 = some z) (hz : z.elim (fun E => ((E = IX ∧ r = 1)) ∧ wl cI a G g ++ (wl cI b J j ++ (xr cI a b x F ++ ((oA, .inl (cJ, 1, .inr (.inl O))) :: rs))) = w') (fun q => 0 = r ∧ wl cI a G g ++ (wl cI b q.2.1 q.2.2 ++ (xr cI a b x F ++ ((oA, .inl (cJ, 1, .inr (.inl (vp_updL O 0 q.1.toInt64)))) :: rs))) = w')) : Ch l yL_waits wsL_waits ({ frames := 7, cells := 1, slots := 6, locals := 167 } : Room) D cI cJ ([.ref (x 0), .int p0, .ref oA] : List Value) (wl cI a G g ++ (wl cI b J j ++ (xr cI a b x F ++ ((oA, .inl (cJ, 1, .inr (.inl O))) :: rs)))) r w' := by
  refine Ch.mk (cc := cL_waits) (maxL := 4) (ret := (some .int)) (hh := [(0, 9, 12, 20)]) (by decide) rfl (Nat.le_of_ble_eq_true rfl) ?_
  intro p e s m below meth c A ls B hr hlk htab hT hK hN hA hP hD hl
  obtain ⟨hx, hb, hml, hown, hts⟩ := id B
  have hS : va_S A s.heap s.heap [] := va_S.rf
  have hl : lv_has ls 4 [(0, .ref (x 0)), (1, .int p0), (2, .ref oA)] := hl
  refine lv_aload_n hx hb dL_waits_0 rfl (lv_at hl 2 rfl) ?_
  refine lv_iconst (v := 0) hx hb dL_waits_1 (by decide) ?_
  refine lv_aload_n hx hb dL_waits_2 rfl (lv_at hl 0 rfl) ?_
  refine lv_iload_n hx hb dL_waits_3 rfl (lv_at hl 1 rfl) ?_
  refine kVx (As := [.int p0]) (rest := [.int 0, .ref oA]) B hK hN hT hP hD hS hA (c_X5_waits l hfl D cI cJ a b x G g J j F p0 z ((oA, .inl (cJ, 1, .inr (.inl O))) :: rs) h) (cwV 1 hts gL_waits_X5_waits rfl rfl rfl (by decide +kernel) ⟨(Nat.le_of_ble_eq_true rfl), (Nat.le_of_ble_eq_true rfl)⟩) 8 56 rfl rfl rfl hl.1 rfl (Nat.le_of_ble_eq_true rfl) dL_waits_4 ⟨(Nat.le_of_ble_eq_true rfl), (Nat.le_of_ble_eq_true rfl)⟩ (fun E ce q9 H locs ho hP hD hS hcell hv hcl => ?_) (fun r1 W1 H locs ho hP hS => ?_)
  · cases z with
    | inr q => cases ho
    | inl E1 =>
      cases ho
      obtain ⟨hE, rfl⟩ := hz
      obtain ⟨rfl, rfl⟩ := hE
      refine vx_catch hown [] ⟨0, 9, 12, 20⟩ [] htab (fun z hz => nomatch hz) (by decide) (by decide) (hts (.classLink RL 20 "java/lang/IndexOutOfBoundsException") (List.mem_of_getElem? (i := 1) rfl)) (va_Nw.use rfl (hT.2.2.2.1 _ (List.mem_of_getElem? (i := 2) rfl))) hcell hv hcl ?_
      refine lv_astore_n (lv' := [(3, .ref q9), (0, .ref (x 0)), (1, .int p0), (2, .ref oA)]) hx hb dL_waits_12 rfl hl (by decide) rfl (fun ls hl => ?_)
      refine lv_iconst (v := 1) hx hb dL_waits_13 (by decide) ?_
      exact eH hx hb hr hlk hP hS dL_waits_14 (Nat.le_of_ble_eq_true rfl) (Nat.le_of_ble_eq_true rfl) rfl rfl
  · cases z with
    | inl E1 => cases ho
    | inr q =>
      cases ho
      obtain ⟨rfl, rfl⟩ := hz
      have hD := D_map hD (show List.map Prod.fst (wl cI a G g ++ (wl cI b q.2.1 q.2.2 ++ (xr cI a b x F ++ ((oA, .inl (cJ, 1, .inr (.inl O))) :: rs)))) = List.map Prod.fst (wl cI a G g ++ (wl cI b J j ++ (xr cI a b x F ++ ((oA, .inl (cJ, 1, .inr (.inl O))) :: rs)))) from rfl)
      refine lv_i2l hx hb dL_waits_7 rfl ?_
      refine va_last hx hb hK hP hD hS 59 1 rfl rfl (vp_in_nI (n := 0) (by decide) (by decide)) dL_waits_8 (fun H locs hP hD hS => ?_)
      refine lv_goto (tgt := 15) hx hb dL_waits_9 (by decide) ?_
      refine lv_iconst (v := 0) hx hb dL_waits_15 (by decide) ?_
      exact eH hx hb hr hlk hP hS dL_waits_16 (Nat.le_of_ble_eq_true rfl) (Nat.le_of_ble_eq_true rfl) rfl rfl
set_option maxHeartbeats 4000000 in
set_option maxRecDepth 100000 in
theorem c_L_foresee (l : Launch) (hfl : l.stackTraces = false) (D : va_G) (cI cJ : ClassId) (a b x : Nat → Nat) (G : Nat → Nat → Int32) (g : Nat → Int32) (J : Nat → Nat → Int32) (j : Nat → Int32) (F : Nat → Int32) (p0 p1 : Int32) (z : String ⊕ (Int32 × (Nat → Nat → Int32) × (Nat → Int32))) (oA : Nat) (O : Nat → Int64) (r : Int32) (w' : va_W) (rs : va_W) (h : fX5_foresee G g J j p0 p1 = some z) (hz : z.elim (fun E => ((E = IA ∧ r = 1) ∨ (E = IX ∧ r = 2)) ∧ wl cI a G g ++ (wl cI b J j ++ (xr cI a b x F ++ ((oA, .inl (cJ, 1, .inr (.inl O))) :: rs))) = w') (fun q => 0 = r ∧ wl cI a G g ++ (wl cI b q.2.1 q.2.2 ++ (xr cI a b x F ++ ((oA, .inl (cJ, 1, .inr (.inl (vp_updL O 0 q.1.toInt64)))) :: rs))) = w')) : Ch l yL_foresee wsL_foresee ({ frames := 7, cells := 1, slots := 6, locals := 156 } : Room) D cI cJ ([.ref (x 0), .int p0, .int p1, .ref oA] : List Value) (wl cI a G g ++ (wl cI b J j ++ (xr cI a b x F ++ ((oA, .inl (cJ, 1, .inr (.inl O))) :: rs)))) r w' := by
  refine Ch.mk (cc := cL_foresee) (maxL := 5) (ret := (some .int)) (hh := [(0, 10, 13, 13), (0, 10, 17, 20)]) (by decide) rfl (Nat.le_of_ble_eq_true rfl) ?_
  intro p e s m below meth c A ls B hr hlk htab hT hK hN hA hP hD hl
  obtain ⟨hx, hb, hml, hown, hts⟩ := id B
  have hS : va_S A s.heap s.heap [] := va_S.rf
  have hl : lv_has ls 5 [(0, .ref (x 0)), (1, .int p0), (2, .int p1), (3, .ref oA)] := hl
  refine lv_aload_n hx hb dL_foresee_0 rfl (lv_at hl 3 rfl) ?_
  refine lv_iconst (v := 0) hx hb dL_foresee_1 (by decide) ?_
  refine lv_aload_n hx hb dL_foresee_2 rfl (lv_at hl 0 rfl) ?_
  refine lv_iload_n hx hb dL_foresee_3 rfl (lv_at hl 1 rfl) ?_
  refine lv_iload_n hx hb dL_foresee_4 rfl (lv_at hl 2 rfl) ?_
  refine kVx (As := [.int p0, .int p1]) (rest := [.int 0, .ref oA]) B hK hN hT hP hD hS hA (c_X5_foresee l hfl D cI cJ a b x G g J j F p0 p1 z ((oA, .inl (cJ, 1, .inr (.inl O))) :: rs) h) (cwV 2 hts gL_foresee_X5_foresee rfl rfl rfl (by decide +kernel) ⟨(Nat.le_of_ble_eq_true rfl), (Nat.le_of_ble_eq_true rfl)⟩) 8 56 rfl rfl rfl hl.1 rfl (Nat.le_of_ble_eq_true rfl) dL_foresee_5 ⟨(Nat.le_of_ble_eq_true rfl), (Nat.le_of_ble_eq_true rfl)⟩ (fun E ce q9 H locs ho hP hD hS hcell hv hcl => ?_) (fun r1 W1 H locs ho hP hS => ?_)
  · cases z with
    | inr q => cases ho
    | inl E1 =>
      cases ho
      obtain ⟨hE, rfl⟩ := hz
      rcases hE with ⟨rfl, rfl⟩ | ⟨rfl, rfl⟩
      · refine vx_catch hown [] ⟨0, 10, 13, 13⟩ [⟨0, 10, 17, 20⟩] htab (fun z hz => nomatch hz) (by decide) (by decide) (hts (.classLink RL 13 "java/lang/IllegalArgumentException") (List.mem_of_getElem? (i := 1) rfl)) (va_Nw.use rfl (hT.2.2.2.1 _ (List.mem_of_getElem? (i := 0) rfl))) hcell hv hcl ?_
        refine lv_astore (lv' := [(4, .ref q9), (0, .ref (x 0)), (1, .int p0), (2, .int p1), (3, .ref oA)]) hx hb dL_foresee_13 hl (by decide) rfl (fun ls hl => ?_)
        refine lv_iconst (v := 1) hx hb dL_foresee_15 (by decide) ?_
        exact eH hx hb hr hlk hP hS dL_foresee_16 (Nat.le_of_ble_eq_true rfl) (Nat.le_of_ble_eq_true rfl) rfl rfl
      · refine vx_catch hown [⟨0, 10, 13, 13⟩] ⟨0, 10, 17, 20⟩ [] htab (fun z hz => by
          simp only [List.mem_cons, List.not_mem_nil, or_false] at hz
          subst hz
          exact Or.inr ⟨by decide, "java/lang/IllegalArgumentException", (hts (.classLink RL 13 "java/lang/IllegalArgumentException") (List.mem_of_getElem? (i := 1) rfl)), hT.2.2.2.2.1 _ (List.mem_of_getElem? (i := 1) rfl)⟩) (by decide) (by decide) (hts (.classLink RL 20 "java/lang/IndexOutOfBoundsException") (List.mem_of_getElem? (i := 2) rfl)) (va_Nw.use rfl (hT.2.2.2.1 _ (List.mem_of_getElem? (i := 2) rfl))) hcell hv hcl ?_
        refine lv_astore (lv' := [(4, .ref q9), (0, .ref (x 0)), (1, .int p0), (2, .int p1), (3, .ref oA)]) hx hb dL_foresee_17 hl (by decide) rfl (fun ls hl => ?_)
        refine lv_iconst (v := 2) hx hb dL_foresee_19 (by decide) ?_
        exact eH hx hb hr hlk hP hS dL_foresee_20 (Nat.le_of_ble_eq_true rfl) (Nat.le_of_ble_eq_true rfl) rfl rfl
  · cases z with
    | inl E1 => cases ho
    | inr q =>
      cases ho
      obtain ⟨rfl, rfl⟩ := hz
      have hD := D_map hD (show List.map Prod.fst (wl cI a G g ++ (wl cI b q.2.1 q.2.2 ++ (xr cI a b x F ++ ((oA, .inl (cJ, 1, .inr (.inl O))) :: rs)))) = List.map Prod.fst (wl cI a G g ++ (wl cI b J j ++ (xr cI a b x F ++ ((oA, .inl (cJ, 1, .inr (.inl O))) :: rs)))) from rfl)
      refine lv_i2l hx hb dL_foresee_8 rfl ?_
      refine va_last hx hb hK hP hD hS 59 1 rfl rfl (vp_in_nI (n := 0) (by decide) (by decide)) dL_foresee_9 (fun H locs hP hD hS => ?_)
      refine lv_goto (tgt := 21) hx hb dL_foresee_10 (by decide) ?_
      refine lv_iconst (v := 0) hx hb dL_foresee_21 (by decide) ?_
      exact eH hx hb hr hlk hP hS dL_foresee_22 (Nat.le_of_ble_eq_true rfl) (Nat.le_of_ble_eq_true rfl) rfl rfl
set_option maxHeartbeats 4000000 in
set_option maxRecDepth 100000 in
theorem c_L_change (l : Launch) (hfl : l.stackTraces = false) (D : va_G) (cI cJ : ClassId) (a b x : Nat → Nat) (G : Nat → Nat → Int32) (g : Nat → Int32) (J : Nat → Nat → Int32) (j : Nat → Int32) (F : Nat → Int32) (p0 : Int32) (z : String ⊕ (Int32 × (Nat → Int32))) (oA : Nat) (O : Nat → Int64) (r : Int32) (w' : va_W) (rs : va_W) (h : fX5_change G g F p0 = some z) (hz : z.elim (fun E => ((E = IA ∧ r = 1)) ∧ wl cI a G g ++ (wl cI b J j ++ (xr cI a b x F ++ ((oA, .inl (cJ, 1, .inr (.inl O))) :: rs))) = w') (fun q => 0 = r ∧ wl cI a G g ++ (wl cI b J j ++ (xr cI a b x q.2 ++ ((oA, .inl (cJ, 1, .inr (.inl (vp_updL O 0 q.1.toInt64)))) :: rs))) = w')) : Ch l yL_change wsL_change ({ frames := 7, cells := 1, slots := 6, locals := 115 } : Room) D cI cJ ([.ref (x 0), .int p0, .ref oA] : List Value) (wl cI a G g ++ (wl cI b J j ++ (xr cI a b x F ++ ((oA, .inl (cJ, 1, .inr (.inl O))) :: rs)))) r w' := by
  refine Ch.mk (cc := cL_change) (maxL := 4) (ret := (some .int)) (hh := [(0, 9, 12, 13)]) (by decide) rfl (Nat.le_of_ble_eq_true rfl) ?_
  intro p e s m below meth c A ls B hr hlk htab hT hK hN hA hP hD hl
  obtain ⟨hx, hb, hml, hown, hts⟩ := id B
  have hS : va_S A s.heap s.heap [] := va_S.rf
  have hl : lv_has ls 4 [(0, .ref (x 0)), (1, .int p0), (2, .ref oA)] := hl
  refine lv_aload_n hx hb dL_change_0 rfl (lv_at hl 2 rfl) ?_
  refine lv_iconst (v := 0) hx hb dL_change_1 (by decide) ?_
  refine lv_aload_n hx hb dL_change_2 rfl (lv_at hl 0 rfl) ?_
  refine lv_iload_n hx hb dL_change_3 rfl (lv_at hl 1 rfl) ?_
  refine kVx (As := [.int p0]) (rest := [.int 0, .ref oA]) B hK hN hT hP hD hS hA (c_X5_change l hfl D cI cJ a b x G g J j F p0 z ((oA, .inl (cJ, 1, .inr (.inl O))) :: rs) h) (cwV 1 hts gL_change_X5_change rfl rfl rfl (by decide +kernel) ⟨(Nat.le_of_ble_eq_true rfl), (Nat.le_of_ble_eq_true rfl)⟩) 8 56 rfl rfl rfl hl.1 rfl (Nat.le_of_ble_eq_true rfl) dL_change_4 ⟨(Nat.le_of_ble_eq_true rfl), (Nat.le_of_ble_eq_true rfl)⟩ (fun E ce q9 H locs ho hP hD hS hcell hv hcl => ?_) (fun r1 W1 H locs ho hP hS => ?_)
  · cases z with
    | inr q => cases ho
    | inl E1 =>
      cases ho
      obtain ⟨hE, rfl⟩ := hz
      obtain ⟨rfl, rfl⟩ := hE
      refine vx_catch hown [] ⟨0, 9, 12, 13⟩ [] htab (fun z hz => nomatch hz) (by decide) (by decide) (hts (.classLink RL 13 "java/lang/IllegalArgumentException") (List.mem_of_getElem? (i := 1) rfl)) (va_Nw.use rfl (hT.2.2.2.1 _ (List.mem_of_getElem? (i := 0) rfl))) hcell hv hcl ?_
      refine lv_astore_n (lv' := [(3, .ref q9), (0, .ref (x 0)), (1, .int p0), (2, .ref oA)]) hx hb dL_change_12 rfl hl (by decide) rfl (fun ls hl => ?_)
      refine lv_iconst (v := 1) hx hb dL_change_13 (by decide) ?_
      exact eH hx hb hr hlk hP hS dL_change_14 (Nat.le_of_ble_eq_true rfl) (Nat.le_of_ble_eq_true rfl) rfl rfl
  · cases z with
    | inl E1 => cases ho
    | inr q =>
      cases ho
      obtain ⟨rfl, rfl⟩ := hz
      have hD := D_map hD (show List.map Prod.fst (wl cI a G g ++ (wl cI b J j ++ (xr cI a b x q.2 ++ ((oA, .inl (cJ, 1, .inr (.inl O))) :: rs)))) = List.map Prod.fst (wl cI a G g ++ (wl cI b J j ++ (xr cI a b x F ++ ((oA, .inl (cJ, 1, .inr (.inl O))) :: rs)))) from rfl)
      refine lv_i2l hx hb dL_change_7 rfl ?_
      refine va_last hx hb hK hP hD hS 59 1 rfl rfl (vp_in_nI (n := 0) (by decide) (by decide)) dL_change_8 (fun H locs hP hD hS => ?_)
      refine lv_goto (tgt := 15) hx hb dL_change_9 (by decide) ?_
      refine lv_iconst (v := 0) hx hb dL_change_15 (by decide) ?_
      exact eH hx hb hr hlk hP hS dL_change_16 (Nat.le_of_ble_eq_true rfl) (Nat.le_of_ble_eq_true rfl) rfl rfl
