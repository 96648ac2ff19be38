/-! the worlds, block by block: a well (wl), the rest of a WishWell (xr), a state of the reference (ms), its outer object (mo) -/
abbrev ai (cI : ClassId) (n : Nat) (f : Nat → Int32) : va_E := .inl (cI, n, .inl f)
def wl (cI : ClassId) (a : Nat → Nat) (G : Nat → Nat → Int32) (g : Nat → Int32) : va_W := [(a 0, .inr (6, [.ref (a 1), .ref (a 2), .ref (a 3), .ref (a 4), .int (g 0), .int (g 1), .int (g 2), .int (g 3), .int (g 4)])), (a 1, .inr (3, [.ref (a 5), .ref (a 6), .ref (a 7), .ref (a 8), .ref (a 9), .int (g 5)])), (a 2, .inr (7, [.ref (a 10), .ref (a 11), .ref (a 12), .ref (a 13), .ref (a 14), .int (g 6)])), (a 3, .inr (4, [.ref (a 15)])), (a 4, .inr (5, [.ref (a 16)])), (a 5, .inr (5, [.ref (a 17)])), (a 6, .inr (5, [.ref (a 18)])), (a 7, .inr (5, [.ref (a 19)])), (a 8, .inr (5, [.ref (a 20)])), (a 9, .inr (5, [.ref (a 21)])), (a 10, .inr (5, [.ref (a 22)])), (a 11, .inr (5, [.ref (a 23)])), (a 12, .inr (5, [.ref (a 24)])), (a 13, .inr (5, [.ref (a 25)])), (a 14, .inr (5, [.ref (a 26)])), (a 15, .inr (5, [.ref (a 27)])), (a 16, ai cI 7 (G 0)), (a 17, ai cI 6 (G 1)), (a 18, ai cI 6 (G 2)), (a 19, ai cI 6 (G 3)), (a 20, ai cI 6 (G 4)), (a 21, ai cI 6 (G 5)), (a 22, ai cI 24 (G 6)), (a 23, ai cI 24 (G 7)), (a 24, ai cI 24 (G 8)), (a 25, ai cI 24 (G 9)), (a 26, ai cI 24 (G 10)), (a 27, ai cI 30 (G 11))]
def xr (cI : ClassId) (a b x : Nat → Nat) (F : Nat → Int32) : va_W := [(x 0, .inr (8, [.ref (a 0), .ref (b 0), .ref (x 1)])), (x 1, .inr (5, [.ref (x 2)])), (x 2, ai cI 301 F)]
def ms (cI : ClassId) (q o : Nat → Nat) (T : Nat → Nat → Int32) (t : Nat → Int32) : va_W := [(q 0, .inr (9, [.int (t 0), .int (t 1), .int (t 2), .ref (q 1), .ref (q 2), .ref (q 3), .ref (q 4), .ref (o 0)])), (q 1, ai cI 30 (T 0)), (q 2, ai cI 6 (T 1)), (q 3, ai cI 24 (T 2)), (q 4, ai cI 24 (T 3))]
def mo (cI : ClassId) (o : Nat → Nat) (s0 u0 : Nat) (M : Nat → Nat → Int32) (m : Nat → Int32) : va_W := [(o 0, .inr (10, [.int (m 0), .int (m 1), .ref (o 1), .ref (o 2), .ref (o 3), .ref (o 4), .ref (o 5), .int (m 2), .ref (o 6), .ref (o 7), .ref (o 8), .int (m 3), .int (m 4), .ref s0, .ref u0])), (o 1, ai cI 6 (M 0)), (o 2, ai cI 6 (M 1)), (o 3, ai cI 7 (M 2)), (o 4, ai cI 6 (M 3)), (o 5, ai cI 6 (M 4)), (o 6, ai cI 24 (M 5)), (o 7, ai cI 24 (M 6)), (o 8, ai cI 24 (M 7))]
/-! a world holds in any order -/
theorem P_mem {D : va_G} {cl : List vw_C} {w w' : va_W} {H : Heap} (h : va_P D cl w H) (hs : ∀ q ∈ w', q ∈ w) : va_P D cl w' H := by
  intro k q hq
  obtain ⟨i, hi⟩ := List.getElem?_of_mem (hs q (List.mem_of_getElem? hq))
  exact h i q hi
theorem P_perm {D : va_G} {cl : List vw_C} {w w' : va_W} {H : Heap} (e : List.Perm w w') (h : va_P D cl w H) : va_P D cl w' H := P_mem h fun _ hq => e.mem_iff.mpr hq
theorem D_nodup {A : Nat → Prop} {w : va_W} : va_D A w ↔ ((w.map Prod.fst).Nodup ∧ ∀ q ∈ w, A q.1) := by
  constructor
  · intro h
    refine ⟨?_, fun q hq => ?_⟩
    · rw [List.nodup_iff_pairwise_ne, List.pairwise_iff_getElem]
      intro i j hi hj hij he
      rw [List.getElem_map, List.getElem_map] at he
      have hi' : i < w.length := by simpa using hi
      have hj' : j < w.length := by simpa using hj
      have := h.1 i j _ _ (List.getElem?_eq_getElem hi') (List.getElem?_eq_getElem hj') he
      omega
    · obtain ⟨i, hi⟩ := List.getElem?_of_mem hq
      exact h.2 i q hi
  · intro h
    refine ⟨fun i j p q hp hq e => ?_, fun k q hk => h.2 q (List.mem_of_getElem? hk)⟩
    have hn := List.pairwise_iff_getElem.mp (List.nodup_iff_pairwise_ne.mp h.1)
    obtain ⟨hi, rfl⟩ := List.getElem?_eq_some_iff.mp hp
    obtain ⟨hj, rfl⟩ := List.getElem?_eq_some_iff.mp hq
    rcases Nat.lt_trichotomy i j with c | c | c
    · exact absurd (by rw [List.getElem_map, List.getElem_map]; exact e) (hn i j (by simpa using hi) (by simpa using hj) c)
    · exact c
    · exact absurd (by rw [List.getElem_map, List.getElem_map]; exact e.symm) (hn j i (by simpa using hj) (by simpa using hi) c)
theorem D_perm {A : Nat → Prop} {w w' : va_W} (e : List.Perm w w') (h : va_D A w) : va_D A w' := by
  have h := D_nodup.mp h
  exact D_nodup.mpr ⟨(e.map Prod.fst).nodup_iff.mp h.1, fun q hq => h.2 q (e.mem_iff.mpr hq)⟩
theorem pm2 {α : Type} (p q r : List α) : List.Perm (p ++ (q ++ r)) (q ++ (p ++ r)) := by
  rw [← List.append_assoc, ← List.append_assoc]
  exact List.Perm.append_right r List.perm_append_comm
theorem pm3 {α : Type} (p q r t : List α) : List.Perm (p ++ (q ++ (r ++ t))) (r ++ (q ++ (p ++ t))) := (pm2 p q (r ++ t)).trans (((pm2 p r t).append_left q).trans (pm2 q r (p ++ t)))
theorem pmx3 {α : Type} (p q r t : List α) (x : α) : List.Perm ((p ++ (q ++ (r ++ t))) ++ [x]) (p ++ (q ++ (r ++ (x :: t)))) := by
  rw [List.append_assoc, List.append_assoc, List.append_assoc]
  exact (((List.perm_append_singleton x t).append_left r).append_left q).append_left p
/-! the ends of a walk's equation -/
theorem o1 {α : Type} {a a' : α} (h : some a = some a') : a = a' := Option.some.inj h
theorem o2 {α β : Type} {a a' : α} {b b' : β} (h : some (a, b) = some (a', b')) : a = a' ∧ b = b' := by cases h; exact ⟨rfl, rfl⟩
theorem o3 {α β γ : Type} {a a' : α} {b b' : β} {c c' : γ} (h : some (a, b, c) = some (a', b', c')) : a = a' ∧ b = b' ∧ c = c' := by cases h; exact ⟨rfl, rfl, rfl⟩
theorem o4 {α β γ δ : Type} {a a' : α} {b b' : β} {c c' : γ} {d d' : δ} (h : some (a, b, c, d) = some (a', b', c', d')) : a = a' ∧ b = b' ∧ c = c' ∧ d = d' := by cases h; exact ⟨rfl, rfl, rfl, rfl⟩
theorem o5 {α β γ δ ε : Type} {a a' : α} {b b' : β} {c c' : γ} {d d' : δ} {e e' : ε} (h : some (a, b, c, d, e) = some (a', b', c', d', e')) : a = a' ∧ b = b' ∧ c = c' ∧ d = d' ∧ e = e' := by cases h; exact ⟨rfl, rfl, rfl, rfl, rfl⟩
theorem lz_c {σ ρ : Type} {f : σ → Option (σ ⊕ ρ)} {n : Nat} {z : σ ⊕ ρ} {r : ρ} {s1 : σ} (h : some (Sum.inl s1) = some z) (hz : (∃ s', z = .inl s' ∧ lp f n s' = some r) ∨ z = .inr r) : lp f n s1 = some r := by
  cases h
  rcases hz with ⟨s', e, h⟩ | e
  · cases e; exact h
  · cases e
theorem lz_e {σ ρ : Type} {f : σ → Option (σ ⊕ ρ)} {n : Nat} {z : σ ⊕ ρ} {r r1 : ρ} (h : some (Sum.inr r1) = some z) (hz : (∃ s', z = .inl s' ∧ lp f n s' = some r) ∨ z = .inr r) : r1 = r := by
  cases h
  rcases hz with ⟨s', e, h⟩ | e
  · cases e
  · cases e; rfl
/-- a loop that may answer for the method: behind its end (inl), or answered (inr) -/
def se {τ α : Type} (z : τ ⊕ α) (k : τ → Option α) : Option α := match z with
  | .inl t => k t
  | .inr o => some o
theorem sw_n {x : Int32} (k : Int32) (z : Int) (hz : k.toInt = z) (h : ¬ x = k) : x.toInt ≠ z := fun e => h (Int32.toInt_inj.mp (e.trans hz.symm))
theorem nar0 : narrow .boolean (.int 0) = .int 0 := by decide
theorem nar1 : narrow .boolean (.int 1) = .int 1 := by decide
abbrev nbo (v : Int32) : Prop := narrow .boolean (.int v) = .int v
/-! answers that are doubles -/
def Cd (l : Launch) (y : MethodName) (ws : List Cond) (rm : Room) (D : va_G) (cI cJ : ClassId) (av : List Value) (w : va_W) (r : UInt64) (w' : va_W) : Prop :=
  ∀ sz : Nat, Met l y ws rm (va_Pc av (Pw D cI cJ w sz)) (va_Qd (fun x (_ : Unit) => x = r) (fun _ t => va_P D vwCl w' t.heap) (va_A w sz)) rm.cells rm.slots (va_A w sz)
theorem Cd.mk {l : Launch} {y : MethodName} {ws ws' : List Cond} {rm : Room} {cc : ByteArray} {maxL : Nat} {ret : Option FieldType} {D : va_G} {cI cJ : ClassId} {av : List Value} {w w' : va_W} {r : UInt64} (hy : plainName y.cls = true) (hw : ws = Cond.code y cc maxL ret :: ws') (hlen : (lg_sl av).length ≤ maxL)
    (body : Bo l y ws rm cc maxL ret D cI cJ av w (fun below s A => MQ below (va_Qd (fun x (_ : Unit) => x = r) (fun _ t => va_P D vwCl w' t.heap) A) av.toArray s rm.cells rm.slots A)) : Cd l y ws rm D cI cJ av w r w' := fun sz => Bo.met (Qc := fun A => va_Qd (fun x (_ : Unit) => x = r) (fun _ t => va_P D vwCl w' t.heap) A) hy hw hlen body sz
section
variable {p : Program} {l : Launch} {e : Env} {R : Room} {s : State} {m : MethodId} {args : Array Value} {below : List Frame} {meth : Method} {c : Code} {H : Heap} {locs : List Loc} {cells slots : Nat} {Q : State → Prop}
variable {cc : ByteArray} {pc nL : Nat} {ls : Array Slot} {D : va_G} {A : Nat → Prop} {cI cJ : ClassId} {w w' w1 : va_W} {mc ms : Nat} {H0 : Heap} {Ts ws : List Cond} {own : String}
abbrev QD (below : List Frame) (D : va_G) (w' : va_W) (r : UInt64) (args : Array Value) (s : State) (mc ms : Nat) (A : Nat → Prop) : State → Prop := MQ below (va_Qd (fun x (_ : Unit) => x = r) (fun _ t => va_P D vwCl w' t.heap) A) args s mc ms A
theorem eD {v r : UInt64} (hx : p.tables.exec = Jvm.exec) (hb : c.code = cc) (hr : meth.sig.returnType = some .double) (hlk : meth.locks = false) (hP : va_P D vwCl w1 H) (hS : va_S A s.heap H locs) (hdg : decode cc pc = .ok (.dreturn, 1)) (hc : cells ≤ mc) (hs : slots ≤ ms) (ev : v = r) (ew : w1 = w') : W p l e R s m args below meth c H locs cells slots (QD below D w' r args s mc ms A) (F0 m pc ls [.double v]) := by
  subst ev; subst ew
  refine W.widen hc hs ?_
  exact W.dret hx hb hr (fun t ht hW => ⟨⟨v, (), rfl, rfl, by show va_P D vwCl w1 t.heap; rw [ht]; exact hP⟩, hS.F ht⟩) hS.2.2 hdg hlk
theorem kVd {y : MethodName} {rm : Room} {C : String} {index : Nat} {bytes : ByteArray} {maxL n : Nat} {ret : Option FieldType} {b : Nat} {As rest st : List Value} {r : UInt64} (B : CallFix p m c cc nL s args Ts own) (hK : va_K D vwCl (tyL cI cJ) s) (hN : NN s) (hP : va_P D vwCl w H) (hD : va_D A w) (hS : va_S A H0 H locs) (hA : ∀ q : Nat, H0.size ≤ q → A q)
    (hM : Cd l y ws rm D cI cJ (.ref b :: As) w r w') (cw : CallW R s args own C index y bytes maxL ret ws rm rm.cells rm.slots n) (ci q0 : Nat) {fs : List Value} {T : u_T} {N : Nat} (hci : vwCl[ci]? = some (C, T, N)) (he : w[q0]? = some (b, .inr (ci, fs))) (hn : As.length = n) (hl : ls.size = nL) (hst : st = As.reverse ++ .ref b :: rest) (h8 : (rest.map fun v => v.category).sum ≤ 8) (hdg : decode cc pc = .ok (.invokevirtual index, 3)) (hcs : cells + rm.cells ≤ R.cells ∧ slots + rm.slots ≤ R.slots) (ha : w'.map Prod.fst = w.map Prod.fst)
    (k : ∀ (H1 : Heap) (locs1 : List Loc), va_P D vwCl w' H1 → va_D A w' → va_S A H0 H1 locs1 → W p l e R s m args below meth c H1 locs1 (cells + rm.cells) (slots + rm.slots) Q (F0 m (pc + 3) ls (.double r :: rest))) : W p l e R s m args below meth c H locs cells slots Q (F0 m pc ls st) :=
  va_calld (va_runV (As := As) (rest := rest) B (hM H.size) cw ⟨Pw.blind, va_recv hK hP hci he, fun U hU hW => ⟨rfl, by rw [hU], by rw [hU]; exact hP, va_K.moved hW.alike hK, NN.warm hW hN, hD.weaken (fun _ _ _ _ => trivial)⟩⟩ rfl hn hl hst (lv_room h8) hdg hcs) hS (fun q _ h => fre hD hS hA q h) (fre hD hS hA) (fun x u t H1 locs1 ht hvm hw hB hz1 hk1 hS1 => by
    have hw : x = r := hw
    subst hw
    exact k H1 locs1 (ht ▸ hB) (D_map hD ha) hS1)
end
