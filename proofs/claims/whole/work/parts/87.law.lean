/-! the law: its world, what holds at a place of its loop -/
abbrev XW (cI cJ : ClassId) (a b2 x : Nat → Nat) (oA : Nat) (G : Nat → Nat → Int32) (g : Nat → Int32) (J : Nat → Nat → Int32) (j : Nat → Int32) (F : Nat → Int32) (O : Nat → Int64) (rs : va_W) : va_W := wl cI a G g ++ (wl cI b2 J j ++ (xr cI a b2 x F ++ ((oA, .inl (cJ, 1, .inr (.inl O))) :: rs)))
abbrev MW (cI : ClassId) (q u o : Nat → Nat) (T : Nat → Nat → Int32) (t : Nat → Int32) (M : Nat → Nat → Int32) (k : Nat → Int32) (V : Nat → Nat → Int32) (v : Nat → Int32) (rs : va_W) : va_W := ms cI q o T t ++ (mo cI o (q 0) (u 0) M k ++ (ms cI u o V v ++ rs))
theorem pmL {A B C : va_W} {e : Nat × va_E} {D E F : va_W} : List.Perm (A ++ (B ++ (C ++ (e :: (D ++ (E ++ (F ++ []))))))) (D ++ (E ++ (F ++ (A ++ (B ++ (C ++ [e])))))) := by
  have h : List.Perm ((A ++ (B ++ (C ++ [e]))) ++ (D ++ (E ++ F))) ((D ++ (E ++ F)) ++ (A ++ (B ++ (C ++ [e])))) := List.perm_append_comm
  simpa [List.append_assoc] using h
section
variable {p : Program} {l : Launch} {e : Env} {R : Room} {s : State} {m : MethodId} {args : Array Value} {below : List Frame} {meth : Method} {c : Code} {H : Heap} {locs : List Loc} {cells slots : Nat} {Q : State → Prop}
variable {cc : ByteArray} {pc nL : Nat} {ls : Array Slot} {D : va_G} {A : Nat → Prop} {cI cJ : ClassId} {w w' w1 : va_W} {mc ms : Nat} {Ts ws : List Cond} {own : String}
theorem lcmpE {x : Int64} {rest : List Value} (hexec : p.tables.exec = Jvm.exec) (hb : c.code = cc) (hdg : decode cc pc = .ok (.lcmp, 1)) (k : W p l e R s m args below meth c H locs cells slots Q (F0 m (pc + 1) ls (.int 0 :: rest))) : W p l e R s m args below meth c H locs cells slots Q (F0 m pc ls (.long x :: .long x :: rest)) := by
  intro T hT X
  obtain ⟨t, a, b⟩ := k T hT X
  refine ⟨t, ?_, b⟩
  have h1 : ¬ (x > x) := Int64.lt_irrefl
  jvm_step X.here [X.here.top, hexec, hb, hdg, h1]
  exact a
/-- a call of a helper -/
theorem kHs {y : MethodName} {rm : Room} {index : Nat} {bytes : ByteArray} {maxL n : Nat} {ret : Option FieldType} {hh : List (Nat × Nat × Nat × Nat)} {As rest st : List Value} {r : Int32} (B : CallFix p m c cc nL s args Ts own) (hK : va_K D vwCl (tyL cI cJ) s) (hN : NN s) (hT : TX A s) (hP : va_P D vwCl w H) (hD : va_D A w) (hS : va_S A s.heap H locs) (hA : ∀ q : Nat, s.heap.size ≤ q → A q)
    (hM : Ch l y ws rm D cI cJ As w r w') (cw : vx_CSW R s args own index y bytes maxL ret hh ws rm rm.cells rm.slots n) (hn : As.length = n) (hl : ls.size = nL) (hst : st = As.reverse ++ rest) (h8 : (rest.map fun v => v.category).sum ≤ 8) (hdg : decode cc pc = .ok (.invokestatic index, 3)) (hcs : cells + rm.cells ≤ R.cells ∧ slots + rm.slots ≤ R.slots) (ha : w'.map Prod.fst = w.map Prod.fst)
    (k : ∀ (H1 : Heap) (locs1 : List Loc), va_P D vwCl w' H1 → va_D A w' → va_S A s.heap H1 locs1 → W p l e R s m args below meth c H1 locs1 (cells + rm.cells) (slots + rm.slots) Q (F0 m (pc + 3) ls (.int r :: rest))) : W p l e R s m args below meth c H locs cells slots Q (F0 m pc ls st) :=
  vx_calli (vx_runSX (As := As) (rest := rest) B (hM H.size) cw ⟨Px.blind, fun U hU hW => ⟨rfl, ⟨by rw [hU], by rw [hU]; exact hP, va_K.moved hW.alike hK, NN.warm hW hN, hD.weaken (fun _ _ _ _ => trivial)⟩, TX.call hT hS (fre hD hS hA) hU hW⟩⟩ rfl hn hl hst (lv_room h8) hdg hcs) hS (fun q _ h => fre hD hS hA q h) (fre hD hS hA) (fun q _ h => fre hD hS hA q h)
    (fun E ce q9 u t H1 locs1 ht hvm hp hB hz1 hk1 hS1 hc hv hcl => hp.elim)
    (fun x u t H1 locs1 ht hvm hw hB hz1 hk1 hS1 => by
      have hw : x = r := hw
      subst hw
      exact k H1 locs1 (ht ▸ hB) (D_map hD ha) hS1)
end
abbrev lA (s : State) : Nat → Prop := fun q : Nat => s.heap.size ≤ q
/-- what stands through the whole law -/
def LC (p : Program) (l : Launch) (s : State) (m : MethodId) (meth : Method) (c : Code) (b L : Nat) (xs : Nat → Int32) (D : va_G) (cI cJ : ClassId) : Prop :=
  (CallFix p m c cL_law 9 s #[Value.ref b] wsL_law RL ∧ va_K D vwCl (tyL cI cJ) s ∧ NN s ∧ TX (lA s) s) ∧ va_X b L xs s s.heap ∧ b < s.heap.size ∧ l.stackTraces = false ∧ L ≤ 1536
/-- the rest of the law, from a place of its loop, with i steps of three numbers behind it, n of them counted -/
def LQt (p : Program) (l : Launch) (e : Env) (s : State) (m : MethodId) (below : List Frame) (meth : Method) (c : Code) (b : Nat) (D : va_G) (cI cJ : ClassId) (a b2 x q u o : Nat → Nat) (oA : Nat) (n i pc cl sl : Nat) : Prop :=
  ∀ (G : Nat → Nat → Int32) (g : Nat → Int32) (J : Nat → Nat → Int32) (j : Nat → Int32) (F : Nat → Int32) (O : Nat → Int64) (T : Nat → Nat → Int32) (t : Nat → Int32) (M : Nat → Nat → Int32) (k : Nat → Int32) (V : Nat → Nat → Int32) (v : Nat → Int32) (H : Heap) (locs : List Loc) (ls : Array Slot), SIM n G g J V T t M k → va_P D vwCl (XW cI cJ a b2 x oA G g J j F O (MW cI q u o T t M k V v [])) H → va_D (lA s) (XW cI cJ a b2 x oA G g J j F O (MW cI q u o T t M k V v [])) → va_S (lA s) s.heap H locs → lv_has ls 9 [(0, .ref b), (1, .ref (x 0)), (2, .ref (o 0)), (3, .ref oA), (4, .int (nI (3 * i)))] → W p l e room_1 s m #[Value.ref b] below meth c H locs cl sl (lw_Z below #[Value.ref b] s) (F0 m pc ls [])
