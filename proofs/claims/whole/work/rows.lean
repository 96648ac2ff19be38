section
-- ===== PART A: goes FIRST, ahead of the names: the tables' words, and 'selects' of the private methods out of them =====
/-- a private method of a class that the tables say can be made, by its rows of tables_1 -/
def lw_okq (q : MethodName × Nat) : Prop := (q.1.cls ≠ "java/lang/invoke/MethodHandle" ∧ q.1.cls ≠ "java/lang/invoke/VarHandle") ∧ Cond.instantiable q.1.cls q.2 ∈ tables_1 ∧ Cond.privateMethod q.1 ∈ tables_1 ∧ Cond.instanceMethod q.1 ∈ tables_1
theorem lw_p0 : lw_okq (⟨"WishWell$Well", "coinsInAll", "()I"⟩, 9) := ⟨⟨by decide +kernel, by decide +kernel⟩, List.mem_of_getElem? (i := 37) (by decide +kernel), List.mem_of_getElem? (i := 223) (by decide +kernel), List.mem_of_getElem? (i := 224) (by decide +kernel)⟩
theorem lw_p1 : lw_okq (⟨"WishWell", "digestLands", "(J)J"⟩, 3) := ⟨⟨by decide +kernel, by decide +kernel⟩, List.mem_of_getElem? (i := 29) (by decide +kernel), List.mem_of_getElem? (i := 238) (by decide +kernel), List.mem_of_getElem? (i := 239) (by decide +kernel)⟩
theorem lw_p2 : lw_okq (⟨"WishWell", "digestLayers", "(J)J"⟩, 3) := ⟨⟨by decide +kernel, by decide +kernel⟩, List.mem_of_getElem? (i := 29) (by decide +kernel), List.mem_of_getElem? (i := 254) (by decide +kernel), List.mem_of_getElem? (i := 255) (by decide +kernel)⟩
theorem lw_p3 : lw_okq (⟨"WishWell", "digestWishes", "(J)J"⟩, 3) := ⟨⟨by decide +kernel, by decide +kernel⟩, List.mem_of_getElem? (i := 29) (by decide +kernel), List.mem_of_getElem? (i := 259) (by decide +kernel), List.mem_of_getElem? (i := 260) (by decide +kernel)⟩
theorem lw_p4 : lw_okq (⟨"java/lang/Throwable", "fillInStackTrace", "(I)Ljava/lang/Throwable;"⟩, 6) := ⟨⟨by decide +kernel, by decide +kernel⟩, List.mem_of_getElem? (i := 318) (by decide +kernel), List.mem_of_getElem? (i := 316) (by decide +kernel), List.mem_of_getElem? (i := 317) (by decide +kernel)⟩
theorem lw_p5 : lw_okq (⟨"WishWell$Well", "raiseFavour", "(I)V"⟩, 9) := ⟨⟨by decide +kernel, by decide +kernel⟩, List.mem_of_getElem? (i := 37) (by decide +kernel), List.mem_of_getElem? (i := 426) (by decide +kernel), List.mem_of_getElem? (i := 427) (by decide +kernel)⟩
theorem lw_p6 : lw_okq (⟨"WishWell$Well", "dearestIn", "(I)I"⟩, 9) := ⟨⟨by decide +kernel, by decide +kernel⟩, List.mem_of_getElem? (i := 37) (by decide +kernel), List.mem_of_getElem? (i := 476) (by decide +kernel), List.mem_of_getElem? (i := 477) (by decide +kernel)⟩
theorem lw_p7 : lw_okq (⟨"WishWell$Well", "receiveVisitors", "()V"⟩, 9) := ⟨⟨by decide +kernel, by decide +kernel⟩, List.mem_of_getElem? (i := 37) (by decide +kernel), List.mem_of_getElem? (i := 544) (by decide +kernel), List.mem_of_getElem? (i := 545) (by decide +kernel)⟩
theorem lw_p8 : lw_okq (⟨"WishWell$Well", "sinkCoins", "()V"⟩, 9) := ⟨⟨by decide +kernel, by decide +kernel⟩, List.mem_of_getElem? (i := 37) (by decide +kernel), List.mem_of_getElem? (i := 549) (by decide +kernel), List.mem_of_getElem? (i := 550) (by decide +kernel)⟩
theorem lw_p9 : lw_okq (⟨"WishWell$Well", "grantNext", "()Z"⟩, 9) := ⟨⟨by decide +kernel, by decide +kernel⟩, List.mem_of_getElem? (i := 37) (by decide +kernel), List.mem_of_getElem? (i := 553) (by decide +kernel), List.mem_of_getElem? (i := 554) (by decide +kernel)⟩
theorem lw_p10 : lw_okq (⟨"WishWell$Well", "coinValue", "(I)I"⟩, 9) := ⟨⟨by decide +kernel, by decide +kernel⟩, List.mem_of_getElem? (i := 37) (by decide +kernel), List.mem_of_getElem? (i := 561) (by decide +kernel), List.mem_of_getElem? (i := 562) (by decide +kernel)⟩
theorem lw_p11 : lw_okq (⟨"WishWell", "daysTillGranted", "(I)I"⟩, 3) := ⟨⟨by decide +kernel, by decide +kernel⟩, List.mem_of_getElem? (i := 29) (by decide +kernel), List.mem_of_getElem? (i := 584) (by decide +kernel), List.mem_of_getElem? (i := 585) (by decide +kernel)⟩
theorem lw_p12 : lw_okq (⟨"WishWell", "payWithLand", "(II)V"⟩, 3) := ⟨⟨by decide +kernel, by decide +kernel⟩, List.mem_of_getElem? (i := 29) (by decide +kernel), List.mem_of_getElem? (i := 634) (by decide +kernel), List.mem_of_getElem? (i := 635) (by decide +kernel)⟩
theorem lw_p13 : lw_okq (⟨"WishWell", "payWithBundle", "(III)V"⟩, 3) := ⟨⟨by decide +kernel, by decide +kernel⟩, List.mem_of_getElem? (i := 29) (by decide +kernel), List.mem_of_getElem? (i := 640) (by decide +kernel), List.mem_of_getElem? (i := 641) (by decide +kernel)⟩
theorem lw_p14 : lw_okq (⟨"WishWellModel", "no", "(I)I"⟩, 15) := ⟨⟨by decide +kernel, by decide +kernel⟩, List.mem_of_getElem? (i := 644) (by decide +kernel), List.mem_of_getElem? (i := 752) (by decide +kernel), List.mem_of_getElem? (i := 753) (by decide +kernel)⟩
theorem lw_p15 : lw_okq (⟨"WishWellModel", "isLand", "(I)Z"⟩, 15) := ⟨⟨by decide +kernel, by decide +kernel⟩, List.mem_of_getElem? (i := 644) (by decide +kernel), List.mem_of_getElem? (i := 764) (by decide +kernel), List.mem_of_getElem? (i := 765) (by decide +kernel)⟩
def lw_privs_1 : List (MethodName × Nat) := [(⟨"WishWell$Well", "coinsInAll", "()I"⟩, 9), (⟨"WishWell", "digestLands", "(J)J"⟩, 3), (⟨"WishWell", "digestLayers", "(J)J"⟩, 3), (⟨"WishWell", "digestWishes", "(J)J"⟩, 3), (⟨"java/lang/Throwable", "fillInStackTrace", "(I)Ljava/lang/Throwable;"⟩, 6), (⟨"WishWell$Well", "raiseFavour", "(I)V"⟩, 9), (⟨"WishWell$Well", "dearestIn", "(I)I"⟩, 9), (⟨"WishWell$Well", "receiveVisitors", "()V"⟩, 9), (⟨"WishWell$Well", "sinkCoins", "()V"⟩, 9), (⟨"WishWell$Well", "grantNext", "()Z"⟩, 9), (⟨"WishWell$Well", "coinValue", "(I)I"⟩, 9), (⟨"WishWell", "daysTillGranted", "(I)I"⟩, 3), (⟨"WishWell", "payWithLand", "(II)V"⟩, 3), (⟨"WishWell", "payWithBundle", "(III)V"⟩, 3), (⟨"WishWellModel", "no", "(I)I"⟩, 15), (⟨"WishWellModel", "isLand", "(I)Z"⟩, 15)]
theorem lw_r1 : ∀ q ∈ lw_privs_1, lw_okq q := List.forall_mem_cons.mpr ⟨lw_p0, List.forall_mem_cons.mpr ⟨lw_p1, List.forall_mem_cons.mpr ⟨lw_p2, List.forall_mem_cons.mpr ⟨lw_p3, List.forall_mem_cons.mpr ⟨lw_p4, List.forall_mem_cons.mpr ⟨lw_p5, List.forall_mem_cons.mpr ⟨lw_p6, List.forall_mem_cons.mpr ⟨lw_p7, List.forall_mem_cons.mpr ⟨lw_p8, List.forall_mem_cons.mpr ⟨lw_p9, List.forall_mem_cons.mpr ⟨lw_p10, List.forall_mem_cons.mpr ⟨lw_p11, List.forall_mem_cons.mpr ⟨lw_p12, List.forall_mem_cons.mpr ⟨lw_p13, List.forall_mem_cons.mpr ⟨lw_p14, List.forall_mem_cons.mpr ⟨lw_p15, fun _ h => absurd h List.not_mem_nil⟩⟩⟩⟩⟩⟩⟩⟩⟩⟩⟩⟩⟩⟩⟩⟩
theorem lw_p16 : lw_okq (⟨"WishWellModel", "isWish", "(I)Z"⟩, 15) := ⟨⟨by decide +kernel, by decide +kernel⟩, List.mem_of_getElem? (i := 644) (by decide +kernel), List.mem_of_getElem? (i := 777) (by decide +kernel), List.mem_of_getElem? (i := 778) (by decide +kernel)⟩
theorem lw_p17 : lw_okq (⟨"WishWellModel", "missed", "(I)I"⟩, 15) := ⟨⟨by decide +kernel, by decide +kernel⟩, List.mem_of_getElem? (i := 644) (by decide +kernel), List.mem_of_getElem? (i := 805) (by decide +kernel), List.mem_of_getElem? (i := 806) (by decide +kernel)⟩
theorem lw_p18 : lw_okq (⟨"WishWellModel", "landTold", "(II)I"⟩, 15) := ⟨⟨by decide +kernel, by decide +kernel⟩, List.mem_of_getElem? (i := 644) (by decide +kernel), List.mem_of_getElem? (i := 817) (by decide +kernel), List.mem_of_getElem? (i := 818) (by decide +kernel)⟩
theorem lw_p19 : lw_okq (⟨"WishWellModel", "wishTold", "(II)I"⟩, 15) := ⟨⟨by decide +kernel, by decide +kernel⟩, List.mem_of_getElem? (i := 644) (by decide +kernel), List.mem_of_getElem? (i := 829) (by decide +kernel), List.mem_of_getElem? (i := 830) (by decide +kernel)⟩
theorem lw_p20 : lw_okq (⟨"WishWellModel", "counted", "(I)I"⟩, 15) := ⟨⟨by decide +kernel, by decide +kernel⟩, List.mem_of_getElem? (i := 644) (by decide +kernel), List.mem_of_getElem? (i := 837) (by decide +kernel), List.mem_of_getElem? (i := 838) (by decide +kernel)⟩
theorem lw_p21 : lw_okq (⟨"WishWellModel$State", "copy", "([I[I)V"⟩, 8) := ⟨⟨by decide +kernel, by decide +kernel⟩, List.mem_of_getElem? (i := 650) (by decide +kernel), List.mem_of_getElem? (i := 872) (by decide +kernel), List.mem_of_getElem? (i := 873) (by decide +kernel)⟩
def lw_privs_2 : List (MethodName × Nat) := [(⟨"WishWellModel", "isWish", "(I)Z"⟩, 15), (⟨"WishWellModel", "missed", "(I)I"⟩, 15), (⟨"WishWellModel", "landTold", "(II)I"⟩, 15), (⟨"WishWellModel", "wishTold", "(II)I"⟩, 15), (⟨"WishWellModel", "counted", "(I)I"⟩, 15), (⟨"WishWellModel$State", "copy", "([I[I)V"⟩, 8)]
theorem lw_r2 : ∀ q ∈ lw_privs_2, lw_okq q := List.forall_mem_cons.mpr ⟨lw_p16, List.forall_mem_cons.mpr ⟨lw_p17, List.forall_mem_cons.mpr ⟨lw_p18, List.forall_mem_cons.mpr ⟨lw_p19, List.forall_mem_cons.mpr ⟨lw_p20, List.forall_mem_cons.mpr ⟨lw_p21, fun _ h => absurd h List.not_mem_nil⟩⟩⟩⟩⟩⟩
def lw_privs : List (MethodName × Nat) := lw_privs_1 ++ (lw_privs_2)
def lw_tbl : List Cond := k2_sels lw_privs ++ tables_1
theorem lw_privs_ok : ∀ q ∈ lw_privs, lw_okq q := by
  show ∀ q ∈ lw_privs_1 ++ (lw_privs_2), lw_okq q
  exact List.forall_mem_append.mpr ⟨lw_r1, lw_r2⟩
/-- the streams that the claim lets the run draw from -/
abbrev lw_cs : List Choice := [Jvm.Choice.named "NaN.bits"]
theorem lw_bits : nanBits ∈ lw_cs := by first | decide | exact List.mem_cons_self | simp [lw_cs, nanBits]
end
section
/-! ===== BEGIN words of one list among another's, by their places ===== -/
theorem goodIn_r {big : List Cond} (ws : List Cond) (ps : List Nat) (hp : ws = ps.filterMap (fun i => big[i]?)) (h : ws.all goodWord = true) : GoodIn big ws := by
  intro w hw
  have h1 := List.all_eq_true.mp h w hw
  rw [hp] at hw
  obtain ⟨i, -, hi⟩ := List.mem_filterMap.mp hw
  have hm : w ∈ big := by first | exact List.mem_of_getElem? hi | exact List.getElem?_mem hi
  exact ⟨hm, good_of_word h1⟩
theorem goodIn_app {big a b : List Cond} (ha : GoodIn big a) (hb : GoodIn big b) : GoodIn big (a ++ b) := fun w h => (List.mem_append.mp h).elim (ha w) (hb w)
theorem goodIn_ca {big a b : List Cond} {c : Cond} (ha : GoodIn big (c :: a)) (hb : GoodIn big b) : GoodIn big (c :: (a ++ b)) := fun w h => (List.mem_cons.mp h).elim (fun e => ha w (List.mem_cons.mpr (Or.inl e))) (fun h => (List.mem_append.mp h).elim (fun h => ha w (List.mem_cons.mpr (Or.inr h))) (hb w))
theorem goodIn_sub {big ws : List Cond} (hm : ∀ w ∈ ws, w ∈ big) (h : ws.all goodWord = true) : GoodIn big ws := fun w hw => ⟨hm w hw, good_of_word (List.all_eq_true.mp h w hw)⟩
/-! ===== END ===== -/

/-! ===== BEGIN exceptions that leave a method, and their catching by the caller (launches without stack traces) ===== -/
section VXA
/-! The laws vx_back, vx_callV, vx_callS, vx_callSW, vx_throw0, vx_throwS follow proofs of the library, with one case more: JvmDerived/Free/Laws.lean (Back.of_free), Shelf42/LK1.lean (callV, callS), Shelf/KitTraced.lean (throwNew0V, throwNewS). -/
/-- where a method has thrown q: the class by its name, the cell, what was written, the world -/
def vx_T (XC : String → State → State → Prop) (st : State) (q : Addr) (t : State) (mc ms : Nat) (free : Addr → Prop) : Prop :=
  ∃ (E : String) (ce : Cell) (L : List Loc), XC E st t ∧ t.heap[q]? = some ce ∧ ce.vm = .none ∧ st.vm.findClass E = some ce.cls ∧ st.WarmedH t.vm ∧ st.sameButNew ({ t with vm := st.vm } : State) L mc ms ∧ ∀ z ∈ L, free z.base
def vx_Q (Qc : Array Value → State → Outcome → State → Prop) (XC : String → State → State → Prop) (mc ms : Nat) (free : Addr → Prop) : Array Value → State → Outcome → State → Prop := fun a st o t =>
  (Qc a st o t ∧ ∃ L, FrameEnd st o t L mc ms ∧ ∀ q ∈ L, free q.base) ∨ ∃ q, o = .threw q ∧ vx_T XC st q t mc ms free
/-- a callee that returns or throws -/
def vx_Met (l : Launch) (y : MethodName) (ws : List Cond) (rm : Room) (Pc : Array Value → State → Prop) (Qc : Array Value → State → Outcome → State → Prop) (XC : String → State → State → Prop) (mc ms : Nat) (free : Addr → Prop) : Prop :=
  MetFree l y (headSpec ws rm) Pc (fun _ _ _ _ _ => True) (vx_Q Qc XC mc ms free)
def vx_Post (XC : String → State → State → Prop) (mc ms : Nat) (free : Addr → Prop) : Pt → Array Value → Addr → Pt → Prop := fun A a q B =>
  ∃ (g : JFrame) (mk : MethodId) (t : State) (L : List Loc) (E : String) (ce : Cell), B.U.heap = t.heap ∧ B.U.vm = t.vm ∧ XC E (A.U.calling g mk a) t ∧ t.heap[q]? = some ce ∧ ce.vm = .none ∧ A.U.vm.findClass E = some ce.cls ∧ B.locs = A.locs ++ L ∧ (∀ z ∈ L, free z.base) ∧ B.cells = A.cells + mc ∧ B.slots = A.slots + ms
def vx_Back (l : Launch) (R : Room) (p : Program) (e : Env) (below : List Frame) (s : State) (sargs : Array Value) (y : MethodName) (len W9 : Nat)
    (Pre : Pt → Array Value → Prop) (Post : Pt → Array Value → Option Value → Pt → Prop) (PostX : Pt → Array Value → Addr → Pt → Prop) : Prop :=
  ∀ (m : MethodId) (meth : Method) (c : Code) (A : Pt) (g : JFrame) (ig : Instr) (mk : MethodId) (a : Array Value),
    Stand p l e R s m sargs below meth c A.U A.locs A.cells A.slots → g.method = m → g.locals.size = c.maxLocals → decode c.code g.pc = .ok (ig, len) →
    2 * g.monitorRoom + (g.stack.map fun v => v.category).sum ≤ W9 → A.U.methodNamed? y = some mk → Pre A a →
    (∃ (v : Option Value) (B : Pt), Stand p l e R s m sargs below meth c B.U B.locs B.cells B.slots ∧ Post A a v B ∧
      Steps p.tables e below (doInvoke e (A.U.setTop g) [] mk a).1 (B.U.setTop { g with pc := g.pc + len, stack := v.toList ++ g.stack })) ∨
    (∃ (q : Addr) (B : Pt), Stand p l e R s m sargs below meth c B.U B.locs B.cells B.slots ∧ PostX A a q B ∧
      Steps p.tables e below (doInvoke e (A.U.setTop g) [] mk a).1 ((B.U.setTop g).pushFrame (.throwing q)))
section Payer
variable {l : Launch} {R : Room} {p : Program} {e : Env} {below : List Frame} {s : State} {sargs : Array Value} {y : MethodName} {len W9 : Nat}
theorem vx_back {ws : List Cond} {rm : Room} {Pc : Array Value → State → Prop} {Qc : Array Value → State → Outcome → State → Prop} {XC : String → State → State → Prop} {mc ms : Nat} {free : Addr → Prop} {bytes : ByteArray} {maxL : Nat} {ret : Option FieldType}
    (hM : vx_Met l y ws rm Pc Qc XC mc ms free) (hblind : FrameBlind Pc) (hrc : rm.cells = mc) (hrs : rm.slots = ms)
    (hframes : rm.frames + 1 ≤ R.frames) (hlocals : W9 + (maxL + 11) + rm.locals ≤ R.locals)
    (hws : ∀ w ∈ ws, ∀ a' U, s.WarmedH U.vm → w.before a' U = true) (hcode : Cond.code y bytes maxL ret ∈ ws) (hinit : ∀ a' U, s.WarmedH U.vm → (Cond.initialized y.cls).before a' U = true) :
    vx_Back l R p e below s sargs y len W9 (PreOf R mc ms Pc) (PostOf Qc mc ms free) (vx_Post XC mc ms free) := by
  intro m meth c A g ig mk a X hg hsize hdg hW hn hp
  have h1 : (headSpec ws rm).pre.before a A.U = true := atoms_intro fun w hw => hws w hw _ _ X.warmed
  have h2 : (Cond.code y bytes maxL ret).before a A.U = true := hws _ hcode _ _ X.warmed
  have h3 : (Cond.initialized y.cls).before a A.U = true := hinit _ _ X.warmed
  have h4 : A.cells + (headSpec ws rm).room.cells ≤ R.cells := by rw [show (headSpec ws rm).room.cells = mc from hrc]; exact hp.1
  have h5 : A.slots + (headSpec ws rm).room.slots ≤ R.slots := by rw [show (headSpec ws rm).room.slots = ms from hrs]; exact hp.2.1
  have hPc : Pc a (A.U.calling g mk a) := hblind _ _ _ _ hp.2.2
  obtain ⟨U, Ls, c0, s0⟩ := A
  dsimp only [Pt.U, Pt.locs, Pt.cells, Pt.slots] at h1 h2 h3 h4 h5 X hn hPc ⊢
  obtain ⟨methY, cY, hmY, hcY, -, hlY, -, -, -, -⟩ := Cond.code_spec hn h2
  obtain ⟨kY, hkY, -⟩ := className_of_methodNamed hn
  have hinitY : kY.init = .initialized := Cond.initialized_spec (findClass_of_methodNamed hn) hkY h3
  have h : At U g.method c below := by rw [hg]; exact X.here
  have hlocals9 : W9 + (maxL + 11) + (headSpec ws rm).room.locals ≤ R.locals := hlocals
  have happ : (headSpec ws rm).appliesLoose y e.platform (U.calling g mk a) = true :=
    Spec.appliesLoose_calling (g := g) h hdg hn hkY hinitY
      (X.room_calling (g := g) (R' := (headSpec ws rm).room) hsize hmY hcY hframes (by rw [hlY]; omega) h4 h5) h1
  obtain ⟨mid, hmid⟩ := h.above
  have hfr : (U.setTop g).frames = (.java g :: mid) ++ below := by rw [State.frames_setTop' g h.top, hmid]; rfl
  obtain ⟨o, s₂, hsteps, -, hend, hq⟩ := Steps.callFree hM p X.admits X.cas X.clock (acts := []) hfr happ hPc trivial
  have hq' : vx_Q Qc XC mc ms free a (U.calling g mk a) o s₂ := hq
  rw [State.frames_setTop' g h.top] at hend
  obtain ⟨g₀, hg0⟩ := Option.isSome_iff_exists.mp h.top
  obtain ⟨r, hr⟩ := State.topJava?_eq_some.mp hg0
  have hr' : (({ U with heap := s₂.heap, slotsUsed := s₂.slotsUsed } : State).setVm s₂.vm).frames = .java g₀ :: r := hr
  rcases hq' with ⟨hqc, L, hfe, hL⟩ | ⟨q, rfl, E, ce, L, hx, hce, hcv, hcl, hW₂, hsm, hL⟩
  · obtain ⟨⟨v, rfl⟩, hW₂, e2, q2, q3, q4, q5, q6⟩ := id hfe
    have e3 : s₂ = ({ (U.calling g mk a).setFrames s₂.frames with heap := s₂.heap, slotsUsed := s₂.slotsUsed } : State).setVm s₂.vm := by
      have : s₂ = ({ s₂ with vm := (U.calling g mk a).vm } : State).setVm s₂.vm := rfl
      rw [e2] at this
      exact this
    obtain ⟨c₂, i₂, len₂, hc₂, hd₂, hf₂⟩ := hend
    have hW' : U.WarmedH s₂.vm := hW₂
    have hcc : c₂ = c := by
      have h1 : s₂.code? g.method = U.code? g.method := by
        rw [State.code?_eq, State.code?_eq, hW'.alike.method?]
      exact Option.some.inj (hc₂.symm.trans (h1.trans h.code))
    subst hcc
    have hlen : len₂ = len := by rw [hdg] at hd₂; cases hd₂; rfl
    subst hlen
    have hs₂ : s₂ = (({ U with heap := s₂.heap, slotsUsed := s₂.slotsUsed } : State).setVm s₂.vm).setTop { g with pc := g.pc + len₂, stack := v.toList ++ g.stack } := by
      refine e3.trans ?_
      rw [hf₂, State.calling_eq h.top, State.setFrames_setFrames, State.setTop_of_frames _ hr', hr]
      rfl
    have hsame : U.sameButNew ({ U with heap := s₂.heap, slotsUsed := s₂.slotsUsed } : State) L mc ms := by
      refine ⟨?_, q2, q3, q4, q5, q6⟩
      obtain ⟨t, ht, -⟩ := State.frames_cons hr
      show ({ U with heap := s₂.heap, slotsUsed := s₂.slotsUsed } : State) = { U.setFrames U.frames with heap := s₂.heap, slotsUsed := s₂.slotsUsed }
      rw [State.setFrames_self ht]
    subst hg
    refine Or.inl ⟨v, ⟨(({ U with heap := s₂.heap, slotsUsed := s₂.slotsUsed } : State).setVm s₂.vm), Ls ++ L, c0 + mc, s0 + ms⟩,
      ⟨X.admits, X.cas, X.clock, X.frames, X.room, X.hears, X.method, X.code, (X.here.setHeapUsed s₂.heap s₂.slotsUsed).setVm hW'.alike, X.tail, State.WarmedH.trans X.warmed hW', X.limits, X.bytes, X.same.trans (hsame.setVm s.vm)⟩,
      ⟨g, mk, s₂, L, rfl, rfl, hqc, rfl, hL, rfl, rfl⟩, ?_⟩
    show Steps p.tables e below _ ((({ U with heap := s₂.heap, slotsUsed := s₂.slotsUsed } : State).setVm s₂.vm).setTop { g with pc := g.pc + len₂, stack := v.toList ++ g.stack })
    rw [← hs₂]
    exact hsteps
  · obtain ⟨e2, q2, q3, q4, q5, q6⟩ := id hsm
    have e3 : s₂ = ({ (U.calling g mk a).setFrames s₂.frames with heap := s₂.heap, slotsUsed := s₂.slotsUsed } : State).setVm s₂.vm := by
      have : s₂ = ({ s₂ with vm := (U.calling g mk a).vm } : State).setVm s₂.vm := rfl
      rw [e2] at this
      exact this
    have hf₂ : s₂.frames = .throwing q :: .java g :: U.frames.tail := hend
    have hW' : U.WarmedH s₂.vm := hW₂
    have hs₂ : s₂ = ((({ U with heap := s₂.heap, slotsUsed := s₂.slotsUsed } : State).setVm s₂.vm).setTop g).pushFrame (.throwing q) := by
      refine e3.trans ?_
      rw [hf₂, State.calling_eq h.top, State.setFrames_setFrames, State.pushFrame, State.frames_setTop _ hr', State.setTop_of_frames _ hr', State.setFrames_setFrames, hr]
      rfl
    have hsame : U.sameButNew ({ U with heap := s₂.heap, slotsUsed := s₂.slotsUsed } : State) L mc ms := by
      refine ⟨?_, q2, q3, q4, q5, q6⟩
      obtain ⟨t, ht, -⟩ := State.frames_cons hr
      show ({ U with heap := s₂.heap, slotsUsed := s₂.slotsUsed } : State) = { U.setFrames U.frames with heap := s₂.heap, slotsUsed := s₂.slotsUsed }
      rw [State.setFrames_self ht]
    subst hg
    refine Or.inr ⟨q, ⟨(({ U with heap := s₂.heap, slotsUsed := s₂.slotsUsed } : State).setVm s₂.vm), Ls ++ L, c0 + mc, s0 + ms⟩,
      ⟨X.admits, X.cas, X.clock, X.frames, X.room, X.hears, X.method, X.code, (X.here.setHeapUsed s₂.heap s₂.slotsUsed).setVm hW'.alike, X.tail, State.WarmedH.trans X.warmed hW', X.limits, X.bytes, X.same.trans (hsame.setVm s.vm)⟩,
      ⟨g, mk, s₂, L, E, ce, rfl, rfl, hx, hce, hcv, hcl, rfl, hL, rfl, rfl⟩, ?_⟩
    show Steps p.tables e below _ (((({ U with heap := s₂.heap, slotsUsed := s₂.slotsUsed } : State).setVm s₂.vm).setTop g).pushFrame (.throwing q))
    rw [← hs₂]
    exact hsteps
end Payer
section Calls
variable {p : Program} {l : Launch} {e : Env} {R : Room} {s : State} {m : MethodId} {args : Array Value} {below : List Frame} {meth : Method} {c : Code} {T : State} {locs : List Loc} {cells slots : Nat}
theorem vx_callV (X : Stand p l e R s m args below meth c T locs cells slots) (hexec : p.tables.exec = Jvm.exec) {own C : String} {index : Nat} {y : MethodName} {bytes : ByteArray} {maxL : Nat} {ret : Option FieldType}
    (hown : s.vm.findClass own = some m.cls) (hlink : (Cond.methodLink own index y).before args s = true) (hinst : (Cond.instanceMethod y).before args s = true) (hsel : (Cond.selects C y y).before args s = true)
    (hcode : (Cond.code y bytes maxL ret).before args s = true) (hy : y.cls ≠ "java/lang/invoke/MethodHandle" ∧ y.cls ≠ "java/lang/invoke/VarHandle")
    {W9 : Nat} {Pre : Pt → Array Value → Prop} {Post : Pt → Array Value → Option Value → Pt → Prop} {PostX : Pt → Array Value → Addr → Pt → Prop} (hK : vx_Back l R p e below s args y 3 W9 Pre Post PostX)
    {b : Addr} {cellB : Cell} (hcell : T.heap[b]? = some cellB) (hobj : cellB.vm.isStatics = false) (hcls : s.vm.findClass C = some cellB.cls)
    {g : JFrame} (hg : g.method = m) (hsize : g.locals.size = c.maxLocals) {argsL rest : List Value} (hlen : ∀ sig, parseMethodDescriptor y.desc = some sig → argsL.length = sig.parameters.length)
    (hstack : g.stack = argsL.reverse ++ .ref b :: rest) (hW : 2 * g.monitorRoom + (rest.map fun v => v.category).sum ≤ W9) (hdg : decode c.code g.pc = .ok (.invokevirtual index, 3))
    (hpre : ∀ vm₁, s.WarmedH vm₁ → Pre ⟨T.setVm vm₁, locs, cells, slots⟩ (Value.ref b :: argsL).toArray) :
    (∃ (v : Option Value) (vm₁ : Vm) (B : Pt), s.WarmedH vm₁ ∧ Stand p l e R s m args below meth c B.U B.locs B.cells B.slots ∧ Post ⟨T.setVm vm₁, locs, cells, slots⟩ (Value.ref b :: argsL).toArray v B ∧
      ∀ target, Steps p.tables e below (B.U.setTop { g with pc := g.pc + 3, stack := v.toList ++ rest }) target → Steps p.tables e below (T.setTop g) target) ∨
    (∃ (q : Addr) (vm₁ : Vm) (B : Pt), s.WarmedH vm₁ ∧ Stand p l e R s m args below meth c B.U B.locs B.cells B.slots ∧ PostX ⟨T.setVm vm₁, locs, cells, slots⟩ (Value.ref b :: argsL).toArray q B ∧
      Steps p.tables e below (T.setTop g) ((B.U.setTop { g with stack := rest }).pushFrame (.throwing q))) := by
  obtain ⟨mk, methM, hnamed, hmethM, hstM, habM⟩ := Cond.instanceMethod_spec hinst
  obtain ⟨methM', cM, hmethM', -, -, -, -, -, -, hsigM⟩ := Cond.code_spec hnamed hcode
  cases hmethM.symm.trans hmethM'
  obtain ⟨c2, r2, m2, q1, q2, q3, q4, kP, hkP, hkPi⟩ := Cond.selects_spec hsel
  cases hcls.symm.trans q1
  cases (State.methodFound?_of_named hnamed hy).symm.trans q2
  cases hnamed.symm.trans q3
  have hselP : selectMethod e.platform s.vm cellB.cls mk = .method mk := by rw [Launch.admits_selectMethod X.admits]; exact q4
  obtain ⟨vm₁, X₁, hstep₁⟩ := X.invokevirtual hexec hown hlink hnamed hmethM hstM hkP hkPi hy (a := b) (cell := cellB) hcell
    (fun z h => by rw [h] at hobj; cases hobj) hselP hmethM habM hkP hkPi (g := g) hg (argsL := argsL) (rest := rest) (hlen _ hsigM) hstack hdg
  rcases hK m meth c ⟨T.setVm vm₁, locs, cells, slots⟩ { g with stack := rest } (.invokevirtual index) mk (Value.ref b :: argsL).toArray X₁ hg hsize hdg hW (X₁.named hnamed) (hpre vm₁ X₁.warmed) with ⟨v, B, X', hpost, hsteps⟩ | ⟨q, B, X', hpost, hsteps⟩
  · exact Or.inl ⟨v, vm₁, B, X₁.warmed, X', hpost, fun target h => hstep₁ _ fun acts => by rw [doInvoke_state]; exact hsteps.trans h⟩
  · exact Or.inr ⟨q, vm₁, B, X₁.warmed, X', hpost, hstep₁ _ fun acts => by rw [doInvoke_state]; exact hsteps⟩
theorem vx_callS (X : Stand p l e R s m args below meth c T locs cells slots) (hexec : p.tables.exec = Jvm.exec) {own : String} {index : Nat} {y : MethodName} {bytes : ByteArray} {maxL : Nat} {ret : Option FieldType}
    (hown : s.vm.findClass own = some m.cls) (hlink : (Cond.methodLink own index y).before args s = true) (hstat : (Cond.static y).before args s = true) (hinit : (Cond.initialized y.cls).before args s = true)
    (hcode : (Cond.code y bytes maxL ret).before args s = true) (hy : y.cls ≠ "java/lang/invoke/MethodHandle" ∧ y.cls ≠ "java/lang/invoke/VarHandle")
    {W9 : Nat} {Pre : Pt → Array Value → Prop} {Post : Pt → Array Value → Option Value → Pt → Prop} {PostX : Pt → Array Value → Addr → Pt → Prop} (hK : vx_Back l R p e below s args y 3 W9 Pre Post PostX)
    {g : JFrame} (hg : g.method = m) (hsize : g.locals.size = c.maxLocals) {argsL rest : List Value} (hlen : ∀ sig, parseMethodDescriptor y.desc = some sig → argsL.length = sig.parameters.length)
    (hstack : g.stack = argsL.reverse ++ rest) (hW : 2 * g.monitorRoom + (rest.map fun v => v.category).sum ≤ W9) (hdg : decode c.code g.pc = .ok (.invokestatic index, 3))
    (hpre : ∀ vm₁, s.WarmedH vm₁ → Pre ⟨T.setVm vm₁, locs, cells, slots⟩ argsL.toArray) :
    (∃ (v : Option Value) (vm₁ : Vm) (B : Pt), s.WarmedH vm₁ ∧ Stand p l e R s m args below meth c B.U B.locs B.cells B.slots ∧ Post ⟨T.setVm vm₁, locs, cells, slots⟩ argsL.toArray v B ∧
      ∀ target, Steps p.tables e below (B.U.setTop { g with pc := g.pc + 3, stack := v.toList ++ rest }) target → Steps p.tables e below (T.setTop g) target) ∨
    (∃ (q : Addr) (vm₁ : Vm) (B : Pt), s.WarmedH vm₁ ∧ Stand p l e R s m args below meth c B.U B.locs B.cells B.slots ∧ PostX ⟨T.setVm vm₁, locs, cells, slots⟩ argsL.toArray q B ∧
      Steps p.tables e below (T.setTop g) ((B.U.setTop { g with stack := rest }).pushFrame (.throwing q))) := by
  obtain ⟨mk, hnamed⟩ := Cond.code_named hcode
  obtain ⟨methM, cM, hmethM, -, -, -, -, -, -, hsigM⟩ := Cond.code_spec hnamed hcode
  have hstatic : methM.isStatic = true := Cond.static_spec hnamed hmethM hstat
  obtain ⟨kP, hkP, -⟩ := className_of_methodNamed hnamed
  have hinitP : kP.init = .initialized := Cond.initialized_spec (findClass_of_methodNamed hnamed) hkP hinit
  obtain ⟨vm₁, X₁, hstep₁⟩ := X.invokestatic hexec hown hlink hnamed hmethM hstatic hkP hinitP hy (g := g) hg (argsL := argsL) (rest := rest) (hlen _ hsigM) hstack hdg
  rcases hK m meth c ⟨T.setVm vm₁, locs, cells, slots⟩ { g with stack := rest } (.invokestatic index) mk argsL.toArray X₁ hg hsize hdg hW (X₁.named hnamed) (hpre vm₁ X₁.warmed) with ⟨v, B, X', hpost, hsteps⟩ | ⟨q, B, X', hpost, hsteps⟩
  · exact Or.inl ⟨v, vm₁, B, X₁.warmed, X', hpost, fun target h => hstep₁ _ fun acts => by rw [doInvoke_state]; exact hsteps.trans h⟩
  · exact Or.inr ⟨q, vm₁, B, X₁.warmed, X', hpost, hstep₁ _ fun acts => by rw [doInvoke_state]; exact hsteps⟩
end Calls
theorem vx_cls {s : State} {T : State} {vm₁ : Vm} {E : String} {k : ClassId} (hW : s.WarmedH vm₁) (h : (T.setVm vm₁).vm.findClass E = some k) : s.vm.findClass E = some k := by
  have h1 : vm₁.findClass E = some k := h
  rw [hW.alike.findClass] at h1
  exact h1
/-- the method's frame g, with q thrown over it -/
def vx_W (p : Program) (l : Launch) (e : Env) (R : Room) (s : State) (m : MethodId) (args : Array Value) (below : List Frame) (meth : Method) (c : Code) (H : Heap) (locs : List Loc) (cells slots : Nat) (Q : State → Prop) (g : JFrame) (q : Addr) : Prop :=
  ∀ T : State, T.heap = H → Stand p l e R s m args below meth c T locs cells slots → ∃ t, Steps p.tables e below ((T.setTop g).pushFrame (.throwing q)) t ∧ Q t
def vx_Run (p : Program) (l : Launch) (e : Env) (R : Room) (s : State) (m : MethodId) (args : Array Value) (below : List Frame) (meth : Method) (c : Code) (H : Heap) (locs : List Loc) (cells slots mc ms : Nat) (g : JFrame) (rest : List Value) (Qa : State → Outcome → State → Prop) (XC : String → State → State → Prop) (free : Addr → Prop) : Prop :=
  ∀ T : State, T.heap = H → Stand p l e R s m args below meth c T locs cells slots →
    (∃ (v : Option Value) (st₀ t T' : State) (L : List Loc), st₀.heap = H ∧ Stand p l e R s m args below meth c T' (locs ++ L) (cells + mc) (slots + ms) ∧ (∀ q ∈ L, free q.base) ∧ T'.heap = t.heap ∧ T'.vm = t.vm ∧ Qa st₀ (.returned v) t ∧
      Goes p e below T g T' { g with pc := g.pc + 3, stack := v.toList ++ rest }) ∨
    (∃ (q : Addr) (st₀ t T' : State) (L : List Loc) (E : String) (ce : Cell), st₀.heap = H ∧ Stand p l e R s m args below meth c T' (locs ++ L) (cells + mc) (slots + ms) ∧ (∀ z ∈ L, free z.base) ∧ T'.heap = t.heap ∧ T'.vm = t.vm ∧ XC E st₀ t ∧ t.heap[q]? = some ce ∧ ce.vm = .none ∧ s.vm.findClass E = some ce.cls ∧
      Steps p.tables e below (T.setTop g) ((T'.setTop { g with stack := rest }).pushFrame (.throwing q)))
def vx_X {S : Type} (px : S → Prop) (B : String → S → State → Prop) (A : Nat → Prop) : String → State → State → Prop := fun E st t => ∃ u : S, px u ∧ B E u t ∧ va_F A st t
section Runs
variable {p : Program} {l : Launch} {e : Env} {R : Room} {s : State} {m : MethodId} {args : Array Value} {below : List Frame} {meth : Method} {c : Code} {H : Heap} {locs : List Loc} {cells slots : Nat}
variable {y : MethodName} {bytes cc : ByteArray} {maxL nL mc ms n index : Nat} {ret : Option FieldType} {ws : List Cond} {rm : Room} {Pc : Array Value → State → Prop} {Qc : Array Value → State → Outcome → State → Prop} {XC : String → State → State → Prop} {free : Addr → Prop} {Ts : List Cond} {own C : String} {b : Addr} {As rest : List Value} {g : JFrame}
theorem vx_callBack (cb : CallB R s args own index y bytes maxL ret ws rm mc ms n) (hM : vx_Met l y ws rm Pc Qc XC mc ms free) (hbl : FrameBlind Pc) : vx_Back l R p e below s args y 3 8 (PreOf R mc ms Pc) (PostOf Qc mc ms free) (vx_Post XC mc ms free) := by
  obtain ⟨hrc, hrs, hfr, hlo, hws, hcw, -, hini, -⟩ := cb
  exact vx_back (bytes := bytes) (maxL := maxL) (ret := ret) hM hbl hrc hrs hfr hlo hws hcw (fun a' U hW => word_at hW (Or.inl (by first | rfl | simp [Cond.onTables, Cond.keeps, Cond.steady])) hini)
theorem vx_runV (S : CallFix p m c cc nL s args Ts own) (hM : vx_Met l y ws rm Pc Qc XC mc ms free) (cw : CallW R s args own C index y bytes maxL ret ws rm mc ms n) (hp : PreV s H C b Pc As)
    (hg : g.method = m) (hn : As.length = n) (hsize : g.locals.size = nL) (hstack : g.stack = As.reverse ++ .ref b :: rest) (hW : 2 * g.monitorRoom + (rest.map fun v => v.category).sum ≤ 8) (hdg : decode cc g.pc = .ok (.invokevirtual index, 3)) (hf : cells + mc ≤ R.cells ∧ slots + ms ≤ R.slots) :
    vx_Run p l e R s m args below meth c H locs cells slots mc ms g rest (Qc (Value.ref b :: As).toArray) XC free := by
  have hK : vx_Back l R p e below s args y 3 8 (PreOf R mc ms Pc) (PostOf Qc mc ms free) (vx_Post XC mc ms free) := vx_callBack cw.1 hM hp.1
  obtain ⟨⟨-, -, -, -, -, -, hcode, -, hy, hlen, hl⟩, hin, hse⟩ := cw
  obtain ⟨hx, hb, hml, ho, -⟩ := S
  obtain ⟨-, ⟨cellB, hcB, hoB, hclB⟩, hPc⟩ := hp
  intro T hT X
  rcases vx_callV X hx (C := C) (bytes := bytes) (maxL := maxL) (ret := ret) ho hl hin hse hcode hy hK (by rw [hT]; exact hcB) hoB hclB hg (hsize.trans hml.symm) (argsL := As) (rest := rest) (fun sig h => hn.trans (hlen sig h)) hstack hW (by rw [hb]; exact hdg)
    (fun vm₁ hW₁ => ⟨hf.1, hf.2, hPc (T.setVm vm₁) hT hW₁⟩) with ⟨v, vm₁, ⟨U', l2, c2, s2⟩, hW₁, X', ⟨g', mk, t, L, e1, e2, hq, h1, hL, h2, h3⟩, st⟩ | ⟨q, vm₁, ⟨U', l2, c2, s2⟩, hW₁, X', ⟨g', mk, t, L, E, ce, e1, e2, hq, hce, hcv, hcl, h1, hL, h2, h3⟩, st⟩
  · dsimp only [Pt.U, Pt.locs, Pt.cells, Pt.slots] at X' e1 e2 h1 h2 h3 st
    subst h1; subst h2; subst h3
    exact Or.inl ⟨v, (T.setVm vm₁).calling g' mk (Value.ref b :: As).toArray, t, U', L, hT, X', hL, e1, e2, hq, st⟩
  · dsimp only [Pt.U, Pt.locs, Pt.cells, Pt.slots] at X' e1 e2 h1 h2 h3 st hcl
    subst h1; subst h2; subst h3
    exact Or.inr ⟨q, (T.setVm vm₁).calling g' mk (Value.ref b :: As).toArray, t, U', L, E, ce, hT, X', hL, e1, e2, hq, hce, hcv, vx_cls hW₁ hcl, st⟩
theorem vx_runS (S : CallFix p m c cc nL s args Ts own) (hM : vx_Met l y ws rm Pc Qc XC mc ms free) (cw : CallB R s args own index y bytes maxL ret ws rm mc ms n ∧ (Cond.static y).before args s = true) (hp : PreS s H Pc As)
    (hg : g.method = m) (hn : As.length = n) (hsize : g.locals.size = nL) (hstack : g.stack = As.reverse ++ rest) (hW : 2 * g.monitorRoom + (rest.map fun v => v.category).sum ≤ 8) (hdg : decode cc g.pc = .ok (.invokestatic index, 3)) (hf : cells + mc ≤ R.cells ∧ slots + ms ≤ R.slots) :
    vx_Run p l e R s m args below meth c H locs cells slots mc ms g rest (Qc As.toArray) XC free := by
  have hK : vx_Back l R p e below s args y 3 8 (PreOf R mc ms Pc) (PostOf Qc mc ms free) (vx_Post XC mc ms free) := vx_callBack cw.1 hM hp.1
  obtain ⟨⟨-, -, -, -, -, -, hcode, hini, hy, hlen, hl⟩, hstt⟩ := cw
  obtain ⟨hx, hb, hml, ho, -⟩ := S
  intro T hT X
  rcases vx_callS X hx (bytes := bytes) (maxL := maxL) (ret := ret) ho hl hstt hini hcode hy hK hg (hsize.trans hml.symm) (argsL := As) (rest := rest) (fun sig h => hn.trans (hlen sig h)) hstack hW (by rw [hb]; exact hdg)
    (fun vm₁ hW₁ => ⟨hf.1, hf.2, hp.2 (T.setVm vm₁) hT hW₁⟩) with ⟨v, vm₁, ⟨U', l2, c2, s2⟩, hW₁, X', ⟨g', mk, t, L, e1, e2, hq, h1, hL, h2, h3⟩, st⟩ | ⟨q, vm₁, ⟨U', l2, c2, s2⟩, hW₁, X', ⟨g', mk, t, L, E, ce, e1, e2, hq, hce, hcv, hcl, h1, hL, h2, h3⟩, st⟩
  · dsimp only [Pt.U, Pt.locs, Pt.cells, Pt.slots] at X' e1 e2 h1 h2 h3 st
    subst h1; subst h2; subst h3
    exact Or.inl ⟨v, (T.setVm vm₁).calling g' mk As.toArray, t, U', L, hT, X', hL, e1, e2, hq, st⟩
  · dsimp only [Pt.U, Pt.locs, Pt.cells, Pt.slots] at X' e1 e2 h1 h2 h3 st hcl
    subst h1; subst h2; subst h3
    exact Or.inr ⟨q, (T.setVm vm₁).calling g' mk As.toArray, t, U', L, E, ce, hT, X', hL, e1, e2, hq, hce, hcv, vx_cls hW₁ hcl, st⟩
end Runs
section Rows
variable {p : Program} {l : Launch} {e : Env} {R : Room} {s : State} {m : MethodId} {args : Array Value} {below : List Frame} {meth : Method} {c : Code} {H : Heap} {locs : List Loc} {cells slots : Nat} {Q : State → Prop}
variable {mc ms : Nat} {free : Addr → Prop} {A0 A1 : Nat → Prop} {H0 : Heap} {a : Array Value} {pc : Nat} {ls : Array Slot} {st0 rest : List Value}
theorem vx_keep {st₀ t T' : State} {L : List Loc} (h0 : st₀.heap = H) (e1 : T'.heap = t.heap) (hS : va_S A0 H0 H locs) (hA : ∀ q, q < H.size → A1 q → A0 q) (hf : ∀ q, free q → A0 q) (hL : ∀ q ∈ L, free q.base) (hF : va_F A1 st₀ t) :
    H.size ≤ T'.heap.size ∧ (∀ q : Nat, q < H.size → ¬ A1 q → T'.heap[q]? = H[q]?) ∧ va_S A0 H0 T'.heap (locs ++ L) := by
  obtain ⟨hz, hk⟩ := hF
  rw [h0] at hz hk
  exact ⟨by rw [e1]; exact hz, fun q h1 h2 => by rw [e1]; exact hk q h1 h2,
    ⟨Nat.le_trans hS.1 (by rw [e1]; exact hz), fun q h1 h2 => by rw [e1, hk q (Nat.lt_of_lt_of_le h1 hS.1) (fun z => h2 (hA q (Nat.lt_of_lt_of_le h1 hS.1) z))]; exact hS.2.1 q h1 h2, fun q hq => by
      rcases List.mem_append.mp hq with h | h
      · exact hS.2.2 q h
      · exact hf _ (hL q h)⟩⟩
theorem vx_calli {S SX : Type} {post : Int32 → S → Prop} {px : SX → Prop} {B : S → State → Prop} {BX : String → SX → State → Prop} {AX : Nat → Prop} (hr : vx_Run p l e R s m args below meth c H locs cells slots mc ms (F0 m pc ls st0) rest (va_Qi post B A1 a) (vx_X px BX AX) free) (hS : va_S A0 H0 H locs) (hA : ∀ q, q < H.size → A1 q → A0 q) (hf : ∀ q, free q → A0 q) (hAX : ∀ q, q < H.size → AX q → A0 q)
    (kx : ∀ (E : String) (ce : Cell) (q9 : Addr) (u : SX) (t : State) (H1 : Heap) (locs1 : List Loc), t.heap = H1 → s.vm.Alike t.vm → px u → BX E u t → H.size ≤ H1.size → (∀ q : Nat, q < H.size → ¬ AX q → H1[q]? = H[q]?) → va_S A0 H0 H1 locs1 → H1[q9]? = some ce → ce.vm = .none → s.vm.findClass E = some ce.cls → vx_W p l e R s m args below meth c H1 locs1 (cells + mc) (slots + ms) Q (F0 m pc ls rest) q9)
    (kk : ∀ (r : Int32) (u : S) (t : State) (H1 : Heap) (locs1 : List Loc), t.heap = H1 → s.vm.Alike t.vm → post r u → B u t → H.size ≤ H1.size → (∀ q : Nat, q < H.size → ¬ A1 q → H1[q]? = H[q]?) → va_S A0 H0 H1 locs1 → W p l e R s m args below meth c H1 locs1 (cells + mc) (slots + ms) Q (F0 m (pc + 3) ls (.int r :: rest))) : W p l e R s m args below meth c H locs cells slots Q (F0 m pc ls st0) := by
  intro T hT X
  rcases hr T hT X with ⟨v, st₀, t, T', L, h0, X', hL, e1, e2, ⟨⟨r, u, hv, hp, hb⟩, hF⟩, st⟩ | ⟨q, st₀, t, T', L, E, ce, h0, X', hL, e1, e2, ⟨u, hp, hb, hF⟩, hce, hcv, hcl, st⟩
  · cases hv
    obtain ⟨k1, k2, k3⟩ := vx_keep h0 e1 hS hA hf hL hF
    obtain ⟨t2, a1, b1⟩ := kk r u t T'.heap (locs ++ L) e1.symm (by rw [← e2]; exact X'.warmed.alike) hp hb k1 k2 k3 T' rfl X'
    exact ⟨t2, st t2 a1, b1⟩
  · obtain ⟨k1, k2, k3⟩ := vx_keep h0 e1 hS hAX hf hL hF
    obtain ⟨t2, a1, b1⟩ := kx E ce q u t T'.heap (locs ++ L) e1.symm (by rw [← e2]; exact X'.warmed.alike) hp hb k1 k2 k3 (by rw [e1]; exact hce) hcv hcl T' rfl X'
    exact ⟨t2, st.trans a1, b1⟩
theorem vx_calll {S SX : Type} {post : Int64 → S → Prop} {px : SX → Prop} {B : S → State → Prop} {BX : String → SX → State → Prop} {AX : Nat → Prop} (hr : vx_Run p l e R s m args below meth c H locs cells slots mc ms (F0 m pc ls st0) rest (va_Ql post B A1 a) (vx_X px BX AX) free) (hS : va_S A0 H0 H locs) (hA : ∀ q, q < H.size → A1 q → A0 q) (hf : ∀ q, free q → A0 q) (hAX : ∀ q, q < H.size → AX q → A0 q)
    (kx : ∀ (E : String) (ce : Cell) (q9 : Addr) (u : SX) (t : State) (H1 : Heap) (locs1 : List Loc), t.heap = H1 → s.vm.Alike t.vm → px u → BX E u t → H.size ≤ H1.size → (∀ q : Nat, q < H.size → ¬ AX q → H1[q]? = H[q]?) → va_S A0 H0 H1 locs1 → H1[q9]? = some ce → ce.vm = .none → s.vm.findClass E = some ce.cls → vx_W p l e R s m args below meth c H1 locs1 (cells + mc) (slots + ms) Q (F0 m pc ls rest) q9)
    (kk : ∀ (r : Int64) (u : S) (t : State) (H1 : Heap) (locs1 : List Loc), t.heap = H1 → s.vm.Alike t.vm → post r u → B u t → H.size ≤ H1.size → (∀ q : Nat, q < H.size → ¬ A1 q → H1[q]? = H[q]?) → va_S A0 H0 H1 locs1 → W p l e R s m args below meth c H1 locs1 (cells + mc) (slots + ms) Q (F0 m (pc + 3) ls (.long r :: rest))) : W p l e R s m args below meth c H locs cells slots Q (F0 m pc ls st0) := by
  intro T hT X
  rcases hr T hT X with ⟨v, st₀, t, T', L, h0, X', hL, e1, e2, ⟨⟨r, u, hv, hp, hb⟩, hF⟩, st⟩ | ⟨q, st₀, t, T', L, E, ce, h0, X', hL, e1, e2, ⟨u, hp, hb, hF⟩, hce, hcv, hcl, st⟩
  · cases hv
    obtain ⟨k1, k2, k3⟩ := vx_keep h0 e1 hS hA hf hL hF
    obtain ⟨t2, a1, b1⟩ := kk r u t T'.heap (locs ++ L) e1.symm (by rw [← e2]; exact X'.warmed.alike) hp hb k1 k2 k3 T' rfl X'
    exact ⟨t2, st t2 a1, b1⟩
  · obtain ⟨k1, k2, k3⟩ := vx_keep h0 e1 hS hAX hf hL hF
    obtain ⟨t2, a1, b1⟩ := kx E ce q u t T'.heap (locs ++ L) e1.symm (by rw [← e2]; exact X'.warmed.alike) hp hb k1 k2 k3 (by rw [e1]; exact hce) hcv hcl T' rfl X'
    exact ⟨t2, st.trans a1, b1⟩
theorem vx_callf {S SX : Type} {post : UInt32 → S → Prop} {px : SX → Prop} {B : S → State → Prop} {BX : String → SX → State → Prop} {AX : Nat → Prop} (hr : vx_Run p l e R s m args below meth c H locs cells slots mc ms (F0 m pc ls st0) rest (va_Qf post B A1 a) (vx_X px BX AX) free) (hS : va_S A0 H0 H locs) (hA : ∀ q, q < H.size → A1 q → A0 q) (hf : ∀ q, free q → A0 q) (hAX : ∀ q, q < H.size → AX q → A0 q)
    (kx : ∀ (E : String) (ce : Cell) (q9 : Addr) (u : SX) (t : State) (H1 : Heap) (locs1 : List Loc), t.heap = H1 → s.vm.Alike t.vm → px u → BX E u t → H.size ≤ H1.size → (∀ q : Nat, q < H.size → ¬ AX q → H1[q]? = H[q]?) → va_S A0 H0 H1 locs1 → H1[q9]? = some ce → ce.vm = .none → s.vm.findClass E = some ce.cls → vx_W p l e R s m args below meth c H1 locs1 (cells + mc) (slots + ms) Q (F0 m pc ls rest) q9)
    (kk : ∀ (r : UInt32) (u : S) (t : State) (H1 : Heap) (locs1 : List Loc), t.heap = H1 → s.vm.Alike t.vm → post r u → B u t → H.size ≤ H1.size → (∀ q : Nat, q < H.size → ¬ A1 q → H1[q]? = H[q]?) → va_S A0 H0 H1 locs1 → W p l e R s m args below meth c H1 locs1 (cells + mc) (slots + ms) Q (F0 m (pc + 3) ls (.float r :: rest))) : W p l e R s m args below meth c H locs cells slots Q (F0 m pc ls st0) := by
  intro T hT X
  rcases hr T hT X with ⟨v, st₀, t, T', L, h0, X', hL, e1, e2, ⟨⟨r, u, hv, hp, hb⟩, hF⟩, st⟩ | ⟨q, st₀, t, T', L, E, ce, h0, X', hL, e1, e2, ⟨u, hp, hb, hF⟩, hce, hcv, hcl, st⟩
  · cases hv
    obtain ⟨k1, k2, k3⟩ := vx_keep h0 e1 hS hA hf hL hF
    obtain ⟨t2, a1, b1⟩ := kk r u t T'.heap (locs ++ L) e1.symm (by rw [← e2]; exact X'.warmed.alike) hp hb k1 k2 k3 T' rfl X'
    exact ⟨t2, st t2 a1, b1⟩
  · obtain ⟨k1, k2, k3⟩ := vx_keep h0 e1 hS hAX hf hL hF
    obtain ⟨t2, a1, b1⟩ := kx E ce q u t T'.heap (locs ++ L) e1.symm (by rw [← e2]; exact X'.warmed.alike) hp hb k1 k2 k3 (by rw [e1]; exact hce) hcv hcl T' rfl X'
    exact ⟨t2, st.trans a1, b1⟩
theorem vx_calld {S SX : Type} {post : UInt64 → S → Prop} {px : SX → Prop} {B : S → State → Prop} {BX : String → SX → State → Prop} {AX : Nat → Prop} (hr : vx_Run p l e R s m args below meth c H locs cells slots mc ms (F0 m pc ls st0) rest (va_Qd post B A1 a) (vx_X px BX AX) free) (hS : va_S A0 H0 H locs) (hA : ∀ q, q < H.size → A1 q → A0 q) (hf : ∀ q, free q → A0 q) (hAX : ∀ q, q < H.size → AX q → A0 q)
    (kx : ∀ (E : String) (ce : Cell) (q9 : Addr) (u : SX) (t : State) (H1 : Heap) (locs1 : List Loc), t.heap = H1 → s.vm.Alike t.vm → px u → BX E u t → H.size ≤ H1.size → (∀ q : Nat, q < H.size → ¬ AX q → H1[q]? = H[q]?) → va_S A0 H0 H1 locs1 → H1[q9]? = some ce → ce.vm = .none → s.vm.findClass E = some ce.cls → vx_W p l e R s m args below meth c H1 locs1 (cells + mc) (slots + ms) Q (F0 m pc ls rest) q9)
    (kk : ∀ (r : UInt64) (u : S) (t : State) (H1 : Heap) (locs1 : List Loc), t.heap = H1 → s.vm.Alike t.vm → post r u → B u t → H.size ≤ H1.size → (∀ q : Nat, q < H.size → ¬ A1 q → H1[q]? = H[q]?) → va_S A0 H0 H1 locs1 → W p l e R s m args below meth c H1 locs1 (cells + mc) (slots + ms) Q (F0 m (pc + 3) ls (.double r :: rest))) : W p l e R s m args below meth c H locs cells slots Q (F0 m pc ls st0) := by
  intro T hT X
  rcases hr T hT X with ⟨v, st₀, t, T', L, h0, X', hL, e1, e2, ⟨⟨r, u, hv, hp, hb⟩, hF⟩, st⟩ | ⟨q, st₀, t, T', L, E, ce, h0, X', hL, e1, e2, ⟨u, hp, hb, hF⟩, hce, hcv, hcl, st⟩
  · cases hv
    obtain ⟨k1, k2, k3⟩ := vx_keep h0 e1 hS hA hf hL hF
    obtain ⟨t2, a1, b1⟩ := kk r u t T'.heap (locs ++ L) e1.symm (by rw [← e2]; exact X'.warmed.alike) hp hb k1 k2 k3 T' rfl X'
    exact ⟨t2, st t2 a1, b1⟩
  · obtain ⟨k1, k2, k3⟩ := vx_keep h0 e1 hS hAX hf hL hF
    obtain ⟨t2, a1, b1⟩ := kx E ce q u t T'.heap (locs ++ L) e1.symm (by rw [← e2]; exact X'.warmed.alike) hp hb k1 k2 k3 (by rw [e1]; exact hce) hcv hcl T' rfl X'
    exact ⟨t2, st.trans a1, b1⟩
theorem vx_callv {S SX : Type} {post : S → Prop} {px : SX → Prop} {B : S → State → Prop} {BX : String → SX → State → Prop} {AX : Nat → Prop} (hr : vx_Run p l e R s m args below meth c H locs cells slots mc ms (F0 m pc ls st0) rest (va_Qv post B A1 a) (vx_X px BX AX) free) (hS : va_S A0 H0 H locs) (hA : ∀ q, q < H.size → A1 q → A0 q) (hf : ∀ q, free q → A0 q) (hAX : ∀ q, q < H.size → AX q → A0 q)
    (kx : ∀ (E : String) (ce : Cell) (q9 : Addr) (u : SX) (t : State) (H1 : Heap) (locs1 : List Loc), t.heap = H1 → s.vm.Alike t.vm → px u → BX E u t → H.size ≤ H1.size → (∀ q : Nat, q < H.size → ¬ AX q → H1[q]? = H[q]?) → va_S A0 H0 H1 locs1 → H1[q9]? = some ce → ce.vm = .none → s.vm.findClass E = some ce.cls → vx_W p l e R s m args below meth c H1 locs1 (cells + mc) (slots + ms) Q (F0 m pc ls rest) q9)
    (kk : ∀ (u : S) (t : State) (H1 : Heap) (locs1 : List Loc), t.heap = H1 → s.vm.Alike t.vm → post u → B u t → H.size ≤ H1.size → (∀ q : Nat, q < H.size → ¬ A1 q → H1[q]? = H[q]?) → va_S A0 H0 H1 locs1 → W p l e R s m args below meth c H1 locs1 (cells + mc) (slots + ms) Q (F0 m (pc + 3) ls (rest))) : W p l e R s m args below meth c H locs cells slots Q (F0 m pc ls st0) := by
  intro T hT X
  rcases hr T hT X with ⟨v, st₀, t, T', L, h0, X', hL, e1, e2, ⟨⟨u, hv, hp, hb⟩, hF⟩, st⟩ | ⟨q, st₀, t, T', L, E, ce, h0, X', hL, e1, e2, ⟨u, hp, hb, hF⟩, hce, hcv, hcl, st⟩
  · cases hv
    obtain ⟨k1, k2, k3⟩ := vx_keep h0 e1 hS hA hf hL hF
    obtain ⟨t2, a1, b1⟩ := kk u t T'.heap (locs ++ L) e1.symm (by rw [← e2]; exact X'.warmed.alike) hp hb k1 k2 k3 T' rfl X'
    exact ⟨t2, st t2 a1, b1⟩
  · obtain ⟨k1, k2, k3⟩ := vx_keep h0 e1 hS hAX hf hL hF
    obtain ⟨t2, a1, b1⟩ := kx E ce q u t T'.heap (locs ++ L) e1.symm (by rw [← e2]; exact X'.warmed.alike) hp hb k1 k2 k3 (by rw [e1]; exact hce) hcv hcl T' rfl X'
    exact ⟨t2, st.trans a1, b1⟩
/-- caught by the row x of this method's table; the rows ahead don't take it -/
theorem vx_catch {own name : String} {E : String} {ce : Cell} {q : Addr} (hown : s.vm.findClass own = some m.cls) (pre : List ExceptionTableEntry) (x : ExceptionTableEntry) (suf : List ExceptionTableEntry) (hsplit : c.exceptionTable.toList = pre ++ x :: suf)
    (hpass : ∀ z ∈ pre, covers z pc = false ∨ (z.catchType ≠ 0 ∧ ∃ nm : String, (Cond.classLink own z.catchType nm).before args s = true ∧ va_Nc E nm s)) (hx : covers x pc = true) (h0 : x.catchType ≠ 0)
    (hlink : (Cond.classLink own x.catchType name).before args s = true) (hcast : (Cond.castable E name).before args s = true) (hcell : H[q]? = some ce) (hv : ce.vm = .none) (hcl : s.vm.findClass E = some ce.cls)
    (kk : W p l e R s m args below meth c H locs cells slots Q (F0 m x.handlerPc ls [.ref q])) : vx_W p l e R s m args below meth c H locs cells slots Q (F0 m pc ls rest) q := by
  intro T hT X
  have hpl : e.platform.magicAccessors = ({} : Platform).magicAccessors := by rw [X.admits.platform]
  obtain ⟨c3, c4, hc3, hc4, hasg⟩ := Cond.castable_spec hcast
  cases Option.some.inj (hc3.symm.trans hcl)
  obtain ⟨c5, hc5, hcl5⟩ := Cond.classLink_spec hown hlink e.platform hpl
  cases Option.some.inj (hc4.symm.trans hc5)
  obtain ⟨vm', X', st⟩ := X.thenCaughtThrough q (g := F0 m pc ls rest) rfl (Steps.refl _) (by rw [hT]; exact hcell) (by rw [hv]; rfl) (by obtain ⟨k9, h9, -⟩ := Vm.findClass_spec hcl; exact ⟨k9, h9⟩) pre x suf hsplit
    (fun z hz => by
      rcases hpass z hz with h | ⟨hz0, nm, hl1, hn1⟩
      · exact Or.inl h
      · obtain ⟨c6, hc6, hcl6⟩ := Cond.classLink_spec hown hl1 e.platform hpl
        obtain ⟨a8, b8, h1, h2, h3⟩ := hn1
        cases Option.some.inj (h1.symm.trans hcl)
        cases Option.some.inj (h2.symm.trans hc6)
        exact Or.inr ⟨hz0, _, hcl6, h3⟩) hx (Or.inr ⟨h0, c4, hcl5, hasg⟩)
  obtain ⟨t, a1, b1⟩ := kk (T.setVm vm') hT X'
  exact ⟨t, st.trans a1, b1⟩
end Rows
section Ends
variable {p : Program} {l : Launch} {e : Env} {R : Room} {s : State} {m : MethodId} {args : Array Value} {below : List Frame} {meth : Method} {c : Code} {H : Heap} {locs : List Loc} {cells slots : Nat} {Q : State → Prop}
variable {mc ms : Nat} {free : Addr → Prop} {A0 A1 : Nat → Prop} {H0 : Heap} {a : Array Value} {ls : Array Slot} {st0 rest : List Value}
variable {Qc : Array Value → State → Outcome → State → Prop} {XC : String → State → State → Prop}
/-- what a body that may throw owes at its end -/
def vx_MQ (below : List Frame) (Qc : Array Value → State → Outcome → State → Prop) (XC : String → State → State → Prop) (a : Array Value) (s : State) (mc ms : Nat) (free : Addr → Prop) : State → Prop := fun t =>
  ∃ o, t.status = .running ∧ Ended t below o ∧ vx_Q Qc XC mc ms free a s o t
theorem vx_ret {g : JFrame} {mc ms : Nat} (k : W p l e R s m args below meth c H locs cells slots (MQ below Qc args s mc ms free) g) : W p l e R s m args below meth c H locs cells slots (vx_MQ below Qc XC args s mc ms free) g := by
  intro T hT X
  obtain ⟨t, a1, o, b1, b2, b3, b4⟩ := k T hT X
  exact ⟨t, a1, o, b1, b2, Or.inl ⟨b3, b4⟩⟩
/-- not caught here: it goes on to the caller -/
theorem vx_widen {g : JFrame} {q : Addr} {k n : Nat} (h1 : cells ≤ k) (h2 : slots ≤ n) (kk : vx_W p l e R s m args below meth c H locs k n Q g q) : vx_W p l e R s m args below meth c H locs cells slots Q g q := fun T hT X => kk T hT (stand_widen X h1 h2)
theorem vx_out {pc : Nat} {E : String} {ce : Cell} {q : Addr} {mc ms : Nat} (hout : ∀ x ∈ c.exceptionTable.toList, covers x pc = false) (hlocks : meth.locks = false) (hcell : H[q]? = some ce) (hv : ce.vm = .none) (hcl : s.vm.findClass E = some ce.cls)
    (hx : ∀ t : State, t.heap = H → s.vm.Alike t.vm → XC E s t) (hf : ∀ z ∈ locs, free z.base) (hc : cells ≤ mc) (hs : slots ≤ ms) :
    vx_W p l e R s m args below meth c H locs cells slots (vx_MQ below Qc XC args s mc ms free) (F0 m pc ls rest) q := by
  intro T hT X
  obtain ⟨st1, hrun, hend, hW, hsm⟩ := X.leaveThrown q (g := F0 m pc ls rest) rfl rfl rfl hout hlocks
  have hcell9 : (T.setFrames (.throwing q :: below)).heap[q]? = some ce := by
    show T.heap[q]? = some ce
    rw [hT]; exact hcell
  exact ⟨_, st1, .threw q, hrun, hend, Or.inr ⟨q, rfl, E, ce, locs, hx _ hT hW.alike, hcell9, hv, hcl, hW, hsm.mono hc hs, hf⟩⟩
theorem vx_frame {U : State} {k n : Nat} (h : s.sameButNew ({ U with vm := s.vm } : State) locs k n) : s.heap.size ≤ U.heap.size ∧ ∀ q : Nat, q < s.heap.size → (∀ z ∈ locs, z.base ≠ q) → U.heap[q]? = s.heap[q]? := by
  obtain ⟨-, h2, -, -, -, h6⟩ := h
  refine ⟨h2, fun q hq hz => ?_⟩
  obtain ⟨c9, e1, e2, e3, e4⟩ := h6 q _ (Array.getElem?_eq_getElem hq)
  have hs : c9.slots = (s.heap[q]).slots := Array.ext_getElem? fun i => e4 i fun hm => hz _ hm rfl
  have h9 : c9 = s.heap[q] := by
    rw [hs] at e2
    exact e2
  have e5 : U.heap[q]? = some c9 := e1
  rw [e5, h9, Array.getElem?_eq_getElem hq]
/-- the words of a throw but the four that speak of the heap -/
def vx_no (w : Cond) : Bool := decide (w ≠ .isRef (.static Bundle.tN "UNASSIGNED_STACK" Bundle.steD)) && decide (w ≠ .isRef (.static Bundle.tN "SUPPRESSED_SENTINEL" Bundle.listD)) && decide (w ≠ .laysStatic Bundle.tN "UNASSIGNED_STACK" Bundle.steD) && decide (w ≠ .laysStatic Bundle.tN "SUPPRESSED_SENTINEL" Bundle.listD)
def vx_at0 (own : String) (ic : Nat) (X : String) (names : List String) : List Cond := (Bundle.ownAtoms0 own ic X names).filter vx_no
def vx_atS (own : String) (ic : Nat) (X : String) (names : List String) : List Cond := (Bundle.ownAtoms own ic X names).filter vx_no
/-- a word that the tables alone decide, or a good one -/
def vx_ot (w : Cond) : Bool := w.onTables || goodWord w
theorem vx_ot_at {args a' : Array Value} {s U : State} {w : Cond} (hW : s.WarmedH U.vm) (hvm : s.vm = U.vm) (hg : vx_ot w = true) (h : w.before args s = true) : w.before a' U = true := by
  simp only [vx_ot, Bool.or_eq_true] at hg
  rcases hg with hg | hg
  · exact va_tabs hg hvm h
  · exact word_at hW (good_of_word hg) h
/-- a list's words: the good ones out of the method's own list, the others by premises of their own -/
theorem vx_hat {args : Array Value} {s : State} {L B : List Cond} (h1 : ∀ w ∈ L.filter goodWord, w.before args s = true) (h2 : ∀ w ∈ L.filter (fun w => !goodWord w), w ∈ B) (h3 : ∀ w ∈ B, w.before args s = true) : ∀ w ∈ L, w.before args s = true := by
  intro w hw
  by_cases g : goodWord w = true
  · exact h1 w (List.mem_filter.mpr ⟨hw, g⟩)
  · refine h3 w (h2 w (List.mem_filter.mpr ⟨hw, ?_⟩))
    show (!goodWord w) = true
    cases hgw : goodWord w
    · rfl
    · exact absurd hgw g
theorem vx_c {args : Array Value} {s : State} {w : Cond} {B : List Cond} (h : w.before args s = true) (t : ∀ w ∈ B, w.before args s = true) : ∀ w' ∈ w :: B, w'.before args s = true := fun w' h' => (List.mem_cons.mp h').elim (fun e => by rw [e]; exact h) (t w')
theorem vx_n {args : Array Value} {s : State} : ∀ w ∈ ([] : List Cond), w.before args s = true := fun _ h => nomatch h
theorem vx_own {args : Array Value} {s : State} {L : List Cond} (h1 : ∀ w ∈ L.filter vx_no, w.before args s = true)
    (hU : (Cond.isRef (.static Bundle.tN "UNASSIGNED_STACK" Bundle.steD)).before args s = true) (hN : (Cond.isRef (.static Bundle.tN "SUPPRESSED_SENTINEL" Bundle.listD)).before args s = true)
    (lU : (Cond.laysStatic Bundle.tN "UNASSIGNED_STACK" Bundle.steD).before args s = true) (lN : (Cond.laysStatic Bundle.tN "SUPPRESSED_SENTINEL" Bundle.listD).before args s = true) : ∀ w ∈ L, w.before args s = true := by
  intro w hw
  by_cases e1 : w = .isRef (.static Bundle.tN "UNASSIGNED_STACK" Bundle.steD)
  · rw [e1]; exact hU
  · by_cases e2 : w = .isRef (.static Bundle.tN "SUPPRESSED_SENTINEL" Bundle.listD)
    · rw [e2]; exact hN
    · by_cases e3 : w = .laysStatic Bundle.tN "UNASSIGNED_STACK" Bundle.steD
      · rw [e3]; exact lU
      · by_cases e4 : w = .laysStatic Bundle.tN "SUPPRESSED_SENTINEL" Bundle.listD
        · rw [e4]; exact lN
        · exact h1 w (List.mem_filter.mpr ⟨hw, by unfold vx_no; rw [decide_eq_true e1, decide_eq_true e2, decide_eq_true e3, decide_eq_true e4]; rfl⟩)
/-- where a static field lies, its class's statics cell in H -/
def vx_L (C n d : String) (A : Nat → Prop) (U : State) (H : Heap) : Prop := ∃ (c : ClassId) (k : Class) (i : Nat) (f : Field) (a : Nat) (cell : Cell), U.vm.findClass C = some c ∧ U.fieldFound? C n d = some (c, k, i, f) ∧ f.isStatic = true ∧ k.statics = some a ∧ H[a]? = some cell ∧ cell.vm.isStatics = true ∧ cell.cls = c ∧ f.slot < cell.slots.size ∧ k.staticTypes[f.slot]? = some f.type ∧ ¬ A a
theorem vx_L.moved {C n d : String} {A : Nat → Prop} {u U : State} {H : Heap} (hvm : u.vm.Alike U.vm) (h : vx_L C n d A u H) : vx_L C n d A U H := by
  obtain ⟨c, k, i, f, a, cell, h1, h2, h3, h4, h5, h6, h7, h8, h9, h10⟩ := h
  obtain ⟨k', hi', he⟩ := State.fieldFound?_setVm hvm h2
  exact ⟨c, k', i, f, a, cell, by rw [hvm.findClass]; exact h1, hi', h3, by rw [he]; exact h4, h5, h6, h7, h8, by rw [he]; exact h9, h10⟩
theorem vx_L.kept {C n d : String} {A : Nat → Prop} {U : State} {H H1 : Heap} (h : vx_L C n d A U H) (hq : ∀ a : Nat, a < H.size → ¬ A a → H1[a]? = H[a]?) : vx_L C n d A U H1 := by
  obtain ⟨c, k, i, f, a, cell, h1, h2, h3, h4, h5, h6, h7, h8, h9, h10⟩ := h
  exact ⟨c, k, i, f, a, cell, h1, h2, h3, h4, by rw [hq a (Array.getElem?_eq_some_iff.mp h5).1 h10]; exact h5, h6, h7, h8, h9, h10⟩
theorem vx_L.narrow {C n d : String} {A B : Nat → Prop} {U : State} {H : Heap} (h : vx_L C n d A U H) (hAB : ∀ q, B q → A q) : vx_L C n d B U H := by
  obtain ⟨c, k, i, f, a, cell, h1, h2, h3, h4, h5, h6, h7, h8, h9, h10⟩ := h
  exact ⟨c, k, i, f, a, cell, h1, h2, h3, h4, h5, h6, h7, h8, h9, fun z => h10 (hAB _ z)⟩
theorem vx_L.word {C n d : String} {A : Nat → Prop} {s : State} {args : Array Value} (h : vx_L C n d A s s.heap) : (Cond.laysStatic C n d).before args s = true := by
  obtain ⟨c, k, i, f, a, cell, h1, h2, h3, h4, h5, h6, h7, h8, h9, -⟩ := h
  show (Cond.laysStatic C n d).holds args s none s [] = true
  exact Cond.laysStatic_of h1 h2 h3 h4 h5 h6 h7 h8 h9
/-- .. and what it holds: null or some reference -/
def vx_Zq (C n d : String) (A : Nat → Prop) (U : State) (H : Heap) : Prop := va_Zq C n d A U H ∧ vx_L C n d A U H
theorem vx_Zq.moved {C n d : String} {A : Nat → Prop} {u U : State} {H : Heap} (hvm : u.vm.Alike U.vm) (h : vx_Zq C n d A u H) : vx_Zq C n d A U H := ⟨va_Zq.moved hvm h.1, vx_L.moved hvm h.2⟩
theorem vx_Zq.kept {C n d : String} {A : Nat → Prop} {U : State} {H H1 : Heap} (h : vx_Zq C n d A U H) (hq : ∀ a : Nat, a < H.size → ¬ A a → H1[a]? = H[a]?) : vx_Zq C n d A U H1 := ⟨va_Zq.kept h.1 hq, vx_L.kept h.2 hq⟩
theorem vx_Zq.narrow {C n d : String} {A B : Nat → Prop} {U : State} {H : Heap} (h : vx_Zq C n d A U H) (hAB : ∀ q, B q → A q) : vx_Zq C n d B U H := ⟨va_Zq.narrow h.1 hAB, vx_L.narrow h.2 hAB⟩
theorem vx_Zqof {args : Array Value} {s : State} {C n d : String} {A : Nat → Prop} (hl : (Cond.laysStatic C n d).before args s = true) (hini : (Cond.initialized C).before args s = true) (h : (Cond.isRef (.static C n d)).before args s = true) (hA : ∀ a : Nat, a < s.heap.size → ¬ A a) : vx_Zq C n d A s s.heap := by
  refine ⟨va_Zqof hl hini h hA, ?_⟩
  obtain ⟨c, k, i, f, a, cell, h1, h2, h3, h4, h5, h6, h7, h8, h9⟩ := Cond.laysStatic_spec hl
  exact ⟨c, k, i, f, a, cell, h1, h2, h3, h4, h5, h6, h7, h8, h9, hA a (Array.getElem?_eq_some_iff.mp h5).1⟩
theorem vx_isRef {C n d : String} {v : Value} {A : Nat → Prop} {s : State} {args : Array Value} (h : va_Z C n d v A s s.heap) (hv : v.isRef = true) : (Cond.isRef (.static C n d)).before args s = true := by
  obtain ⟨cf, kf, fi, f, a, cell, h1, h2, h3, h4, h5, h6, h7, -⟩ := h
  have he : (Term.static C n d).eval args s none [] s = some v := by
    simp [Term.eval, State.fieldNamed?, h1, h2, h4, h5, h6, h7]
  simp only [Cond.before, Cond.holds, Cond.value, he]
  cases v <;> simp_all [Value.isRef]
theorem vx_isRefq {C n d : String} {A : Nat → Prop} {s : State} {args : Array Value} (h : va_Zq C n d A s s.heap) : (Cond.isRef (.static C n d)).before args s = true := by
  rcases h with h | ⟨t, h⟩
  · exact vx_isRef h rfl
  · exact vx_isRef h rfl
/-- the same frame, seen from here: as if the method were called anew in this heap -/
theorem vx_rebase {T : State} (X : Stand p l e R s m args below meth c T locs cells slots) {R' : Room} (hf : R'.frames ≤ R.frames) (hl : R'.locals ≤ R.locals) (hc : cells + R'.cells ≤ R.cells) (hs : slots + R'.slots ≤ R.slots) :
    Stand p l e R' ((T.setVm s.vm).setFrames (.invoking m args :: below)) m args below meth c T [] 0 0 := by
  have htop : (T.setVm s.vm).topJava?.isSome := X.here.top
  have hF : ((T.setVm s.vm).setFrames (.invoking m args :: below)).frames = .invoking m args :: below := State.frames_setFrames _ (State.cur_lt_of_top htop)
  obtain ⟨g₀, hg0⟩ := Option.isSome_iff_exists.mp htop
  obtain ⟨r, hr⟩ := State.topJava?_eq_some.mp hg0
  have hl9 : e.platform.stackLimits (T.setVm s.vm).me = e.platform.stackLimits s.me := X.limits
  have hb9 : (T.setVm s.vm).me.stackBytes = s.me.stackBytes := X.bytes
  refine ⟨X.admits, X.cas, X.clock, hF, ?_, X.hears, X.method, X.code, X.here, X.tail, X.warmed, ?_, ?_, ?_⟩
  · have h := X.room
    have hU : ((T.setVm s.vm).setFrames (.invoking m args :: below)).localsInUse = s.localsInUse := by
      rw [State.localsInUse_invoking hF (meth := meth) (c := c) X.method X.code, State.localsInUse_invoking X.frames X.method X.code]
    simp only [State.hasRoom, Bool.and_eq_true, decide_eq_true_eq] at h ⊢
    obtain ⟨⟨⟨⟨h1, h2, h3, h4, h5, h6⟩, h7⟩, h8⟩, h9⟩ := h
    rw [X.frames, List.length_cons] at h2 h3
    have q1 := X.heapSize
    have q2 := X.used
    simp only [hF, hU, List.length_cons, State.stackLimits_setFrames, State.stackBytes_setFrames, hl9, hb9]
    refine ⟨⟨⟨⟨by omega, by omega, by omega, by omega, by omega, h6⟩, ?_⟩, ?_⟩, X.book⟩
    · show T.heap.size + R'.cells ≤ e.platform.maxCells
      omega
    · show T.slotsUsed + R'.slots ≤ e.platform.maxSlots
      omega
  · rw [State.stackLimits_setFrames]; rfl
  · rw [State.stackBytes_setFrames]; rfl
  · refine ⟨?_, Nat.le_refl _, Nat.le_refl _, ?_, ?_, fun a c9 h9 => ⟨c9, h9, rfl, rfl, fun _ _ => rfl⟩⟩
    · obtain ⟨t, ht, -⟩ := State.frames_cons hr
      show T.setVm s.vm = { ((T.setVm s.vm).setFrames (.invoking m args :: below)).setFrames (T.setVm s.vm).frames with heap := T.heap, slotsUsed := T.slotsUsed }
      rw [State.setFrames_setFrames, State.setFrames_self ht]
      rfl
    · show T.slotsUsed = T.slotsUsed + ((T.heap.toList.drop T.heap.size).map (·.slots.size)).sum
      rw [List.drop_eq_nil_of_le (Nat.le_of_eq Array.length_toList)]
      rfl
    · show ((T.heap.toList.drop T.heap.size).map (·.slots.size)).sum ≤ 0
      rw [List.drop_eq_nil_of_le (Nat.le_of_eq Array.length_toList)]
      exact Nat.le_refl _
/-- 'throw new E()': new; dup; invokespecial; athrow -/
theorem vx_throw0 {cc : ByteArray} {pc : Nat} (hexec : p.tables.exec = Jvm.exec) (hb : c.code = cc) (hl : l.stackTraces = false) {own cls : String} {names : List String} {ik ic mc ms : Nat} {A : Nat → Prop}
    (hown : s.vm.findClass own = some m.cls) (hcls : Bundle.fit cls = true) (hnames : ∀ n ∈ names, Bundle.fit n = true)
    (hk : (Cond.classLink own ik cls).before args s = true) (hini : (Cond.initialized cls).before args s = true) (hat : ∀ w ∈ vx_at0 own ic cls names, w.before args s = true)
    (hgood : ∀ w ∈ Cond.classLink own ik cls :: Cond.initialized cls :: vx_at0 own ic cls names, vx_ot w = true)
    (hU : vx_Zq Bundle.tN "UNASSIGNED_STACK" Bundle.steD A s s.heap) (hN : vx_Zq Bundle.tN "SUPPRESSED_SENTINEL" Bundle.listD A s s.heap) (hS : va_S A s.heap H locs) (hsize : ls.size = c.maxLocals)
    (d0 : decode cc pc = .ok (.new ik, 3)) (d3 : decode cc (pc + 3) = .ok (.dup, 1)) (d4 : decode cc (pc + 4) = .ok (.invokespecial ic, 3)) (d7 : decode cc (pc + 7) = .ok (.athrow, 1))
    (hout : ∀ x ∈ c.exceptionTable.toList, covers x (pc + 7) = false)
    (hRframes : names.length + 3 < R.frames) (hRlocals : (rest.map fun v => v.category).sum + (13 * (names.length + 1) + 42) ≤ R.locals) (hRcells : cells + 1 ≤ R.cells) (hRslots : slots + 6 ≤ R.slots) (hlocks : meth.locks = false)
    (hx : ∀ t : State, s.vm.Alike t.vm → H.size ≤ t.heap.size → (∀ q : Nat, q < H.size → t.heap[q]? = H[q]?) → XC cls s t)
    (hf : ∀ z ∈ locs, free z.base) (hc : cells + 1 ≤ mc) (hs : slots + 6 ≤ ms) :
    W p l e R s m args below meth c H locs cells slots (vx_MQ below Qc XC args s mc ms free) (F0 m pc ls rest) := by
  intro T hT X
  have htr : e.platform.stackTraces = false := (show e.platform.stackTraces = l.stackTraces by rw [X.admits.platform]).trans hl
  have Y := vx_rebase X (R' := { frames := R.frames, locals := R.locals, cells := 1, slots := 6 }) (Nat.le_refl _) (Nat.le_refl _) hRcells hRslots
  obtain ⟨s', hA⟩ : ∃ z, z = (T.setVm s.vm).setFrames (.invoking m args :: below) := ⟨_, rfl⟩
  rw [← hA] at Y
  have hvm : s'.vm = s.vm := by rw [hA]; rfl
  have hhp : s'.heap = H := by rw [hA]; exact hT
  have hW0 : s.WarmedH s'.vm := by rw [hvm]; exact State.WarmedH.refl s
  have hat' : ∀ w ∈ vx_at0 own ic cls names, w.before args s' = true := fun w hw => vx_ot_at hW0 hvm.symm (hgood w (List.mem_cons_of_mem _ (List.mem_cons_of_mem _ hw))) (hat w hw)
  have hk' : (Cond.classLink own ik cls).before args s' = true := vx_ot_at hW0 hvm.symm (hgood _ List.mem_cons_self) hk
  have hini' : (Cond.initialized cls).before args s' = true := vx_ot_at hW0 hvm.symm (hgood _ (List.mem_cons_of_mem _ List.mem_cons_self)) hini
  have hU' : vx_Zq Bundle.tN "UNASSIGNED_STACK" Bundle.steD A s' s'.heap := by rw [hhp]; exact vx_Zq.moved hW0.alike (hU.kept hS.2.1)
  have hN' : vx_Zq Bundle.tN "SUPPRESSED_SENTINEL" Bundle.listD A s' s'.heap := by rw [hhp]; exact vx_Zq.moved hW0.alike (hN.kept hS.2.1)
  have h : ∀ w ∈ Bundle.ownAtoms0 own ic cls names, w.before args s' = true := vx_own hat' (vx_isRefq hU'.1) (vx_isRefq hN'.1) hU'.2.word hN'.2.word
  have hown' : s'.vm.findClass own = some m.cls := by rw [hvm]; exact hown
  have hins : (Cond.instantiable cls 6).before args s' = true := h _ (by simp [Bundle.ownAtoms0])
  obtain ⟨vm₁, cX, kX, hfX, hkX, -, -, X₁, st1⟩ := Y.newCold hexec (own := own) (C := cls) (index := ik) (n := 6) hown' hk' hins hini'
    (g := F0 m pc ls rest) rfl (by rw [hb]; exact d0) (Nat.le_refl _) (Nat.le_refl _)
  generalize hT1 : (T.setVm vm₁).pushCell { cls := cX, slots := kX.instanceTypes.map defaultValue, vm := .none } = T1 at X₁ st1
  have hcat : (Value.ref T.heap.size).category = 1 := rfl
  have hcellA : T1.heap[T.heap.size]? = some (freshCell cX kX) := by rw [← hT1]; exact State.heap_pushCell_size _ _
  have d3' : decode c.code (pc + 3) = .ok (.dup, 1) := by rw [hb]; exact d3
  obtain ⟨U, hsteps, hrun, hend, hW, hsame, ce, hce, hO⟩ := X₁.ctorThrow0 hexec htr (own := own) (cls := cls) (names := names) (ic := ic) hown' hcls hnames h (fun x hx => nomatch hx) hfX hkX hcellA (by rw [hhp, hT]; exact Nat.le_refl _)
    (g := { method := m, pc := pc + 4, locals := ls, stack := .ref T.heap.size :: .ref T.heap.size :: rest, locked := none }) rfl hsize rfl rfl (rest := rest) rfl
    (by rw [hb]; exact d4) (by rw [hb]; exact d7) hout hRframes (by simp only [List.map_cons, List.sum_cons, hcat]; omega) hlocks
  obtain ⟨f1, f2⟩ := vx_frame hsame
  rw [hhp] at f1 f2
  have hWs : s.WarmedH U.vm := State.WarmedH.trans hW0 hW
  have hcl : s.vm.findClass cls = some ce.cls := by
    have h9 := hO.cls
    rw [hvm] at h9
    exact h9
  have hall : s.sameButNew ({ U with vm := s.vm } : State) locs mc ms := by
    subst hA
    obtain ⟨e1, e2⟩ := hsame
    rw [State.setFrames_setFrames] at e1
    have h2 : (T.setVm s.vm).sameButNew ({ U with vm := s.vm } : State) [] (0 + 1) (0 + 6) := ⟨e1, e2⟩
    have h3 := X.same.trans h2
    rw [List.append_nil] at h3
    exact h3.mono hc hs
  refine ⟨U, ?_, .threw T.heap.size, hrun, hend, Or.inr ⟨T.heap.size, rfl, cls, ce, locs, hx U hWs.alike f1 (fun q hq => f2 q hq (fun z hz => nomatch hz)), hce, hO.vm, hcl, hWs, hall, hf⟩⟩
  refine st1 _ ?_
  show Steps p.tables e below (T1.setTop { method := m, pc := pc + 3, locals := ls, stack := .ref T.heap.size :: rest, locked := none }) _
  jvm_step X₁.here [X₁.here.top, hexec, d3', Value.category]
  exact hsteps
/-- 'throw new E("text")': new; dup; ldc; invokespecial; athrow -/
theorem vx_throwS {cc : ByteArray} {pc : Nat} (hexec : p.tables.exec = Jvm.exec) (hb : c.code = cc) (hl : l.stackTraces = false) {own cls text : String} {names : List String} {ik is ic mc ms sa : Nat} {A : Nat → Prop}
    (hown : s.vm.findClass own = some m.cls) (hcls : Bundle.fit cls = true) (hnames : ∀ n ∈ names, Bundle.fit n = true)
    (hk : (Cond.classLink own ik cls).before args s = true) (hini : (Cond.initialized cls).before args s = true) (hstr : vk_R own is text sa s) (hat : ∀ w ∈ vx_atS own ic cls names, w.before args s = true)
    (hgood : ∀ w ∈ Cond.classLink own ik cls :: Cond.initialized cls :: vx_atS own ic cls names, vx_ot w = true)
    (hU : vx_Zq Bundle.tN "UNASSIGNED_STACK" Bundle.steD A s s.heap) (hN : vx_Zq Bundle.tN "SUPPRESSED_SENTINEL" Bundle.listD A s s.heap) (hS : va_S A s.heap H locs) (hsize : ls.size = c.maxLocals)
    (d0 : decode cc pc = .ok (.new ik, 3)) (d3 : decode cc (pc + 3) = .ok (.dup, 1)) (d4 : decode cc (pc + 4) = .ok (.ldc is, 2)) (d6 : decode cc (pc + 6) = .ok (.invokespecial ic, 3)) (d9 : decode cc (pc + 9) = .ok (.athrow, 1))
    (hout : ∀ x ∈ c.exceptionTable.toList, covers x (pc + 9) = false)
    (hRframes : names.length + 3 < R.frames) (hRlocals : (rest.map fun v => v.category).sum + (13 * (names.length + 1) + 43) ≤ R.locals) (hRcells : cells + 1 ≤ R.cells) (hRslots : slots + 6 ≤ R.slots) (hlocks : meth.locks = false)
    (hx : ∀ t : State, s.vm.Alike t.vm → H.size ≤ t.heap.size → (∀ q : Nat, q < H.size → t.heap[q]? = H[q]?) → XC cls s t)
    (hf : ∀ z ∈ locs, free z.base) (hc : cells + 1 ≤ mc) (hs : slots + 6 ≤ ms) :
    W p l e R s m args below meth c H locs cells slots (vx_MQ below Qc XC args s mc ms free) (F0 m pc ls rest) := by
  intro T hT X
  have htr : e.platform.stackTraces = false := (show e.platform.stackTraces = l.stackTraces by rw [X.admits.platform]).trans hl
  have Y := vx_rebase X (R' := { frames := R.frames, locals := R.locals, cells := 1, slots := 6 }) (Nat.le_refl _) (Nat.le_refl _) hRcells hRslots
  obtain ⟨s', hA⟩ : ∃ z, z = (T.setVm s.vm).setFrames (.invoking m args :: below) := ⟨_, rfl⟩
  rw [← hA] at Y
  have hvm : s'.vm = s.vm := by rw [hA]; rfl
  have hhp : s'.heap = H := by rw [hA]; exact hT
  have hW0 : s.WarmedH s'.vm := by rw [hvm]; exact State.WarmedH.refl s
  have hat' : ∀ w ∈ vx_atS own ic cls names, w.before args s' = true := fun w hw => vx_ot_at hW0 hvm.symm (hgood w (List.mem_cons_of_mem _ (List.mem_cons_of_mem _ hw))) (hat w hw)
  have hk' : (Cond.classLink own ik cls).before args s' = true := vx_ot_at hW0 hvm.symm (hgood _ List.mem_cons_self) hk
  have hini' : (Cond.initialized cls).before args s' = true := vx_ot_at hW0 hvm.symm (hgood _ (List.mem_cons_of_mem _ List.mem_cons_self)) hini
  have hU' : vx_Zq Bundle.tN "UNASSIGNED_STACK" Bundle.steD A s' s'.heap := by rw [hhp]; exact vx_Zq.moved hW0.alike (hU.kept hS.2.1)
  have hN' : vx_Zq Bundle.tN "SUPPRESSED_SENTINEL" Bundle.listD A s' s'.heap := by rw [hhp]; exact vx_Zq.moved hW0.alike (hN.kept hS.2.1)
  have h : ∀ w ∈ Bundle.ownAtoms own ic cls names, w.before args s' = true := vx_own hat' (vx_isRefq hU'.1) (vx_isRefq hN'.1) hU'.2.word hN'.2.word
  have hown' : s'.vm.findClass own = some m.cls := by rw [hvm]; exact hown
  have hins : (Cond.instantiable cls 6).before args s' = true := h _ (by simp [Bundle.ownAtoms])
  obtain ⟨vm₁, cX, kX, hfX, hkX, -, -, X₁, st1⟩ := Y.newCold hexec (own := own) (C := cls) (index := ik) (n := 6) hown' hk' hins hini'
    (g := F0 m pc ls rest) rfl (by rw [hb]; exact d0) (Nat.le_refl _) (Nat.le_refl _)
  generalize hT1 : (T.setVm vm₁).pushCell { cls := cX, slots := kX.instanceTypes.map defaultValue, vm := .none } = T1 at X₁ st1
  have hcat : (Value.ref T.heap.size).category = 1 := rfl
  have hcellA : T1.heap[T.heap.size]? = some (freshCell cX kX) := by rw [← hT1]; exact State.heap_pushCell_size _ _
  have d3' : decode c.code (pc + 3) = .ok (.dup, 1) := by rw [hb]; exact d3
  have d4' : decode c.code (pc + 4) = .ok (.ldc is, 2) := by rw [hb]; exact d4
  have hstr' : vk_R own is text sa s' := vk_R.warm hW0 hstr
  obtain ⟨U, hsteps, hrun, hend, hW, hsame, ce, hce, hO⟩ := X₁.ctorThrowS hexec htr (own := own) (cls := cls) (names := names) (ic := ic) hown' hcls hnames h (fun x hx => nomatch hx) hfX hkX hcellA (by rw [hhp, hT]; exact Nat.le_refl _) (msg := .ref sa) rfl
    (g := { method := m, pc := pc + 6, locals := ls, stack := .ref sa :: .ref T.heap.size :: .ref T.heap.size :: rest, locked := none }) rfl hsize rfl rfl (rest := rest) rfl
    (by rw [hb]; exact d6) (by rw [hb]; exact d9) hout hRframes (by simp only [List.map_cons, List.sum_cons, hcat]; omega) hlocks
  obtain ⟨f1, f2⟩ := vx_frame hsame
  rw [hhp] at f1 f2
  have hWs : s.WarmedH U.vm := State.WarmedH.trans hW0 hW
  have hcl : s.vm.findClass cls = some ce.cls := by
    have h9 := hO.cls
    rw [hvm] at h9
    exact h9
  have hall : s.sameButNew ({ U with vm := s.vm } : State) locs mc ms := by
    subst hA
    obtain ⟨e1, e2⟩ := hsame
    rw [State.setFrames_setFrames] at e1
    have h2 : (T.setVm s.vm).sameButNew ({ U with vm := s.vm } : State) [] (0 + 1) (0 + 6) := ⟨e1, e2⟩
    have h3 := X.same.trans h2
    rw [List.append_nil] at h3
    exact h3.mono hc hs
  refine ⟨U, ?_, .threw T.heap.size, hrun, hend, Or.inr ⟨T.heap.size, rfl, cls, ce, locs, hx U hWs.alike f1 (fun q hq => f2 q hq (fun z hz => nomatch hz)), hce, hO.vm, hcl, hWs, hall, hf⟩⟩
  refine st1 _ ?_
  show Steps p.tables e below (T1.setTop { method := m, pc := pc + 3, locals := ls, stack := .ref T.heap.size :: rest, locked := none }) _
  jvm_step X₁.here [X₁.here.top, hexec, d3', Value.category]
  exact X₁.ldcString hexec (own := own) (text := text) (index := is) (a := sa) hown' hstr'.1 hstr'.2
    (g := { method := m, pc := pc + 4, locals := ls, stack := .ref T.heap.size :: .ref T.heap.size :: rest, locked := none }) rfl d4' _ hsteps
/-- 'throw new E("text")', the text by a wide index -/
theorem vx_throwSW {cc : ByteArray} {pc : Nat} (hexec : p.tables.exec = Jvm.exec) (hb : c.code = cc) (hl : l.stackTraces = false) {own cls text : String} {names : List String} {ik is ic mc ms sa : Nat} {A : Nat → Prop}
    (hown : s.vm.findClass own = some m.cls) (hcls : Bundle.fit cls = true) (hnames : ∀ n ∈ names, Bundle.fit n = true)
    (hk : (Cond.classLink own ik cls).before args s = true) (hini : (Cond.initialized cls).before args s = true) (hstr : vk_R own is text sa s) (hat : ∀ w ∈ vx_atS own ic cls names, w.before args s = true)
    (hgood : ∀ w ∈ Cond.classLink own ik cls :: Cond.initialized cls :: vx_atS own ic cls names, vx_ot w = true)
    (hU : vx_Zq Bundle.tN "UNASSIGNED_STACK" Bundle.steD A s s.heap) (hN : vx_Zq Bundle.tN "SUPPRESSED_SENTINEL" Bundle.listD A s s.heap) (hS : va_S A s.heap H locs) (hsize : ls.size = c.maxLocals)
    (d0 : decode cc pc = .ok (.new ik, 3)) (d3 : decode cc (pc + 3) = .ok (.dup, 1)) (d4 : decode cc (pc + 4) = .ok (.ldc_w is, 3)) (d7 : decode cc (pc + 7) = .ok (.invokespecial ic, 3)) (d10 : decode cc (pc + 10) = .ok (.athrow, 1))
    (hout : ∀ x ∈ c.exceptionTable.toList, covers x (pc + 10) = false)
    (hRframes : names.length + 3 < R.frames) (hRlocals : (rest.map fun v => v.category).sum + (13 * (names.length + 1) + 43) ≤ R.locals) (hRcells : cells + 1 ≤ R.cells) (hRslots : slots + 6 ≤ R.slots) (hlocks : meth.locks = false)
    (hx : ∀ t : State, s.vm.Alike t.vm → H.size ≤ t.heap.size → (∀ q : Nat, q < H.size → t.heap[q]? = H[q]?) → XC cls s t)
    (hf : ∀ z ∈ locs, free z.base) (hc : cells + 1 ≤ mc) (hs : slots + 6 ≤ ms) :
    W p l e R s m args below meth c H locs cells slots (vx_MQ below Qc XC args s mc ms free) (F0 m pc ls rest) := by
  intro T hT X
  have htr : e.platform.stackTraces = false := (show e.platform.stackTraces = l.stackTraces by rw [X.admits.platform]).trans hl
  have Y := vx_rebase X (R' := { frames := R.frames, locals := R.locals, cells := 1, slots := 6 }) (Nat.le_refl _) (Nat.le_refl _) hRcells hRslots
  obtain ⟨s', hA⟩ : ∃ z, z = (T.setVm s.vm).setFrames (.invoking m args :: below) := ⟨_, rfl⟩
  rw [← hA] at Y
  have hvm : s'.vm = s.vm := by rw [hA]; rfl
  have hhp : s'.heap = H := by rw [hA]; exact hT
  have hW0 : s.WarmedH s'.vm := by rw [hvm]; exact State.WarmedH.refl s
  have hat' : ∀ w ∈ vx_atS own ic cls names, w.before args s' = true := fun w hw => vx_ot_at hW0 hvm.symm (hgood w (List.mem_cons_of_mem _ (List.mem_cons_of_mem _ hw))) (hat w hw)
  have hk' : (Cond.classLink own ik cls).before args s' = true := vx_ot_at hW0 hvm.symm (hgood _ List.mem_cons_self) hk
  have hini' : (Cond.initialized cls).before args s' = true := vx_ot_at hW0 hvm.symm (hgood _ (List.mem_cons_of_mem _ List.mem_cons_self)) hini
  have hU' : vx_Zq Bundle.tN "UNASSIGNED_STACK" Bundle.steD A s' s'.heap := by rw [hhp]; exact vx_Zq.moved hW0.alike (hU.kept hS.2.1)
  have hN' : vx_Zq Bundle.tN "SUPPRESSED_SENTINEL" Bundle.listD A s' s'.heap := by rw [hhp]; exact vx_Zq.moved hW0.alike (hN.kept hS.2.1)
  have h : ∀ w ∈ Bundle.ownAtoms own ic cls names, w.before args s' = true := vx_own hat' (vx_isRefq hU'.1) (vx_isRefq hN'.1) hU'.2.word hN'.2.word
  have hown' : s'.vm.findClass own = some m.cls := by rw [hvm]; exact hown
  have hins : (Cond.instantiable cls 6).before args s' = true := h _ (by simp [Bundle.ownAtoms])
  obtain ⟨vm₁, cX, kX, hfX, hkX, -, -, X₁, st1⟩ := Y.newCold hexec (own := own) (C := cls) (index := ik) (n := 6) hown' hk' hins hini'
    (g := F0 m pc ls rest) rfl (by rw [hb]; exact d0) (Nat.le_refl _) (Nat.le_refl _)
  generalize hT1 : (T.setVm vm₁).pushCell { cls := cX, slots := kX.instanceTypes.map defaultValue, vm := .none } = T1 at X₁ st1
  have hcat : (Value.ref T.heap.size).category = 1 := rfl
  have hcellA : T1.heap[T.heap.size]? = some (freshCell cX kX) := by rw [← hT1]; exact State.heap_pushCell_size _ _
  have d3' : decode c.code (pc + 3) = .ok (.dup, 1) := by rw [hb]; exact d3
  have d4' : decode c.code (pc + 4) = .ok (.ldc_w is, 3) := by rw [hb]; exact d4
  have hstr' : vk_R own is text sa s' := vk_R.warm hW0 hstr
  obtain ⟨U, hsteps, hrun, hend, hW, hsame, ce, hce, hO⟩ := X₁.ctorThrowS hexec htr (own := own) (cls := cls) (names := names) (ic := ic) hown' hcls hnames h (fun x hx => nomatch hx) hfX hkX hcellA (by rw [hhp, hT]; exact Nat.le_refl _) (msg := .ref sa) rfl
    (g := { method := m, pc := pc + 7, locals := ls, stack := .ref sa :: .ref T.heap.size :: .ref T.heap.size :: rest, locked := none }) rfl hsize rfl rfl (rest := rest) rfl
    (by rw [hb]; exact d7) (by rw [hb]; exact d10) hout hRframes (by simp only [List.map_cons, List.sum_cons, hcat]; omega) hlocks
  obtain ⟨f1, f2⟩ := vx_frame hsame
  rw [hhp] at f1 f2
  have hWs : s.WarmedH U.vm := State.WarmedH.trans hW0 hW
  have hcl : s.vm.findClass cls = some ce.cls := by
    have h9 := hO.cls
    rw [hvm] at h9
    exact h9
  have hall : s.sameButNew ({ U with vm := s.vm } : State) locs mc ms := by
    subst hA
    obtain ⟨e1, e2⟩ := hsame
    rw [State.setFrames_setFrames] at e1
    have h2 : (T.setVm s.vm).sameButNew ({ U with vm := s.vm } : State) [] (0 + 1) (0 + 6) := ⟨e1, e2⟩
    have h3 := X.same.trans h2
    rw [List.append_nil] at h3
    exact h3.mono hc hs
  refine ⟨U, ?_, .threw T.heap.size, hrun, hend, Or.inr ⟨T.heap.size, rfl, cls, ce, locs, hx U hWs.alike f1 (fun q hq => f2 q hq (fun z hz => nomatch hz)), hce, hO.vm, hcl, hWs, hall, hf⟩⟩
  refine st1 _ ?_
  show Steps p.tables e below (T1.setTop { method := m, pc := pc + 3, locals := ls, stack := .ref T.heap.size :: rest, locked := none }) _
  jvm_step X₁.here [X₁.here.top, hexec, d3', Value.category]
  exact X₁.ldcStringW hexec (own := own) (text := text) (index := is) (a := sa) hown' hstr'.1 hstr'.2
    (g := { method := m, pc := pc + 4, locals := ls, stack := .ref T.heap.size :: .ref T.heap.size :: rest, locked := none }) rfl d4' _ hsteps
end Ends
section Bodies
variable {l : Launch}
theorem vx_ofW {y : MethodName} {ws ws' : List Cond} {rm : Room} {Pc : Array Value → State → Prop} {Qc : Array Value → State → Outcome → State → Prop} {XC : String → State → State → Prop} {mc ms : Nat} {free : Addr → Prop} {cc : ByteArray} {maxL : Nat} {ret : Option FieldType}
    (hy : plainName y.cls = true) (hw : ws = Cond.code y cc maxL ret :: ws')
    (body : ∀ p e s m args below meth c s₁, BodyLoose p l y (headSpec ws rm) cc maxL ret e s m args below meth c s₁ → c.maxLocals = maxL → (∀ x ∈ c.exceptionTable.toList, False) → Pc args s →
      W p l e (headSpec ws rm).room s m args below meth c s.heap [] 0 0 (vx_MQ below Qc XC args s mc ms free) (entryFrame m args maxL)) : vx_Met l y ws rm Pc Qc XC mc ms free := by
  refine MetFree.of_bodyS (code := cc) (maxLocals := maxL) (ret := ret) hy ?_ ?_
  · intro args s m h hn
    obtain ⟨meth, c, h1, h2, h3, h4, h5, h6, -, -⟩ := Cond.code_spec hn (atoms_spec (ws := ws) h _ (by rw [hw]; exact List.mem_cons_self))
    exact ⟨meth, c, h1, h2, h3, h4, h5, h6⟩
  · intro p e s m args below meth c s₁ B hml hP _
    have hh0 : s₁.heap = s.heap := by rw [B.state]; rfl
    have ht : ∀ x ∈ c.exceptionTable.toList, False := by
      obtain ⟨meth9, c9, h1, h2, -, -, -, -, h7, -⟩ := Cond.code_spec B.named (atoms_spec (ws := ws) B.pre _ (by rw [hw]; exact List.mem_cons_self))
      cases Option.some.inj (h1.symm.trans B.method)
      cases Option.some.inj (h2.symm.trans (Stand.of_body B).code)
      intro x hx
      rw [Array.isEmpty_iff.mp h7] at hx
      cases hx
    obtain ⟨t, a1, o, b1, b2, b3⟩ := body p e s m args below meth c s₁ B hml ht hP s₁ hh0 (Stand.of_body B)
    exact ⟨t, o, a1, b1, b2, b3⟩
/-- the table of a body with handlers -/
theorem vx_table {p : Program} {x y : MethodName} {S : Spec} {cc bytes : ByteArray} {maxL maxL' : Nat} {ret ret' : Option FieldType} {e : Env} {s s₁ : State} {m : MethodId} {args : Array Value} {below : List Frame} {meth : Method} {c : Code} {hh : List (Nat × Nat × Nat × Nat)}
    (B : BodyLoose p l y S cc maxL ret e s m args below meth c s₁) (h : (Cond.codeWith y bytes maxL' ret' hh).before args s = true) : c.exceptionTable.toList = tableOf hh := by
  obtain ⟨m9, meth9, c9, hn9, h1, h2, -, -, h6, -⟩ := Cond.codeWith_spec h
  cases Option.some.inj (hn9.symm.trans B.named)
  cases Option.some.inj (h1.symm.trans B.method)
  cases Option.some.inj (h2.symm.trans (Stand.of_body B).code)
  rw [← h6, table_eq]
end Bodies
end VXA
/-! ===== END ===== -/
/-! ===== BEGIN a static call of a method with an exception table ===== -/
section VXS
variable {p : Program} {l : Launch} {e : Env} {R : Room} {s : State} {m : MethodId} {args : Array Value} {below : List Frame} {meth : Method} {c : Code} {T : State} {H : Heap} {locs : List Loc} {cells slots : Nat}
abbrev vx_CSW (R : Room) (s : State) (args : Array Value) (own : String) (index : Nat) (y : MethodName) (bytes : ByteArray) (maxL : Nat) (ret : Option FieldType) (hh : List (Nat × Nat × Nat × Nat)) (ws : List Cond) (rm : Room) (mc ms n : Nat) : Prop :=
  (rm.cells = mc ∧ rm.slots = ms ∧ rm.frames + 1 ≤ R.frames ∧ 8 + (maxL + 11) + rm.locals ≤ R.locals ∧ (∀ w ∈ ws, ∀ (a' : Array Value) (U : State), s.WarmedH U.vm → w.before a' U = true) ∧ Cond.codeWith y bytes maxL ret hh ∈ ws) ∧
  (Cond.codeWith y bytes maxL ret hh).before args s = true ∧ (Cond.initialized y.cls).before args s = true ∧ (y.cls ≠ "java/lang/invoke/MethodHandle" ∧ y.cls ≠ "java/lang/invoke/VarHandle") ∧
  (∀ sig, parseMethodDescriptor y.desc = some sig → n = sig.parameters.length) ∧ (Cond.methodLink own index y).before args s = true ∧ (Cond.static y).before args s = true
theorem vx_cwSW {own : String} {index maxL mc ms : Nat} {y : MethodName} {bytes : ByteArray} {ret : Option FieldType} {hh : List (Nat × Nat × Nat × Nat)} {Ts ws ws' : List Cond} {rm : Room} (n : Nat) (ht : ∀ w ∈ Ts, w.before args s = true) (hT : GoodIn Ts (va_wsS own index y ws)) (hw : ws = Cond.codeWith y bytes maxL ret hh :: ws') (hrc : rm.cells = mc) (hrs : rm.slots = ms)
    (hd : y.cls ≠ "java/lang/invoke/MethodHandle" ∧ y.cls ≠ "java/lang/invoke/VarHandle" ∧ (parseMethodDescriptor y.desc).map (fun d => d.parameters.length) = some n) (hR : rm.frames + 1 ≤ R.frames ∧ 8 + (maxL + 11) + rm.locals ≤ R.locals) :
    vx_CSW R s args own index y bytes maxL ret hh ws rm mc ms n := by
  have ok : ∀ w ∈ va_wsS own index y ws, w.before args s = true := fun w h => ht w (hT w h).1
  have hG : GoodIn Ts ws := fun w h => hT w (by unfold va_wsS; exact List.mem_append_right _ h)
  have hc : Cond.codeWith y bytes maxL ret hh ∈ ws := by rw [hw]; exact List.mem_cons_self
  refine ⟨⟨hrc, hrs, hR.1, hR.2, pay_in ht hG, hc⟩, ht _ (hG _ hc).1, ok _ (by simp [va_wsS]), ⟨hd.1, hd.2.1⟩, fun sig h => ?_, ok _ (by simp [va_wsS]), ok _ (by simp [va_wsS])⟩
  have h2 := hd.2.2
  rw [h] at h2
  exact (Option.some.inj h2).symm
theorem vx_callSW (X : Stand p l e R s m args below meth c T locs cells slots) (hexec : p.tables.exec = Jvm.exec) {own : String} {index : Nat} {y : MethodName} {bytes : ByteArray} {maxL : Nat} {ret : Option FieldType} {hh : List (Nat × Nat × Nat × Nat)}
    (hown : s.vm.findClass own = some m.cls) (hlink : (Cond.methodLink own index y).before args s = true) (hstat : (Cond.static y).before args s = true) (hinit : (Cond.initialized y.cls).before args s = true)
    (hcode : (Cond.codeWith y bytes maxL ret hh).before args s = true) (hy : y.cls ≠ "java/lang/invoke/MethodHandle" ∧ y.cls ≠ "java/lang/invoke/VarHandle")
    {W9 : Nat} {Pre : Pt → Array Value → Prop} {Post : Pt → Array Value → Option Value → Pt → Prop} (hK : Back l R p e below s args y 3 W9 Pre Post)
    {g : JFrame} (hg : g.method = m) (hsize : g.locals.size = c.maxLocals) {argsL rest : List Value} (hlen : ∀ sig, parseMethodDescriptor y.desc = some sig → argsL.length = sig.parameters.length)
    (hstack : g.stack = argsL.reverse ++ rest) (hW : 2 * g.monitorRoom + (rest.map fun v => v.category).sum ≤ W9) (hdg : decode c.code g.pc = .ok (.invokestatic index, 3))
    (hpre : ∀ vm₁, s.WarmedH vm₁ → Pre ⟨T.setVm vm₁, locs, cells, slots⟩ argsL.toArray) :
    ∃ (v : Option Value) (vm₁ : Vm) (B : Pt), s.WarmedH vm₁ ∧ Stand p l e R s m args below meth c B.U B.locs B.cells B.slots ∧ Post ⟨T.setVm vm₁, locs, cells, slots⟩ argsL.toArray v B ∧
      ∀ target, Steps p.tables e below (B.U.setTop { g with pc := g.pc + 3, stack := v.toList ++ rest }) target → Steps p.tables e below (T.setTop g) target := by
  obtain ⟨mk, methM, cM, hnamed, hmethM, -, -, -, -, -, -, hsigM⟩ := Cond.codeWith_spec hcode
  have hstatic : methM.isStatic = true := Cond.static_spec hnamed hmethM hstat
  obtain ⟨kP, hkP, -⟩ := className_of_methodNamed hnamed
  have hinitP : kP.init = .initialized := Cond.initialized_spec (findClass_of_methodNamed hnamed) hkP hinit
  obtain ⟨vm₁, X₁, hstep₁⟩ := X.invokestatic hexec hown hlink hnamed hmethM hstatic hkP hinitP hy (g := g) hg (argsL := argsL) (rest := rest) (hlen _ hsigM) hstack hdg
  obtain ⟨v, B, X', hpost, hsteps⟩ := hK m meth c ⟨T.setVm vm₁, locs, cells, slots⟩ { g with stack := rest } (.invokestatic index) mk argsL.toArray X₁ hg hsize hdg hW (X₁.named hnamed) (hpre vm₁ X₁.warmed)
  exact ⟨v, vm₁, B, X₁.warmed, X', hpost, fun target h => hstep₁ _ fun acts => by rw [doInvoke_state]; exact hsteps.trans h⟩
theorem vx_runSW {y : MethodName} {bytes cc : ByteArray} {maxL nL mc ms n index : Nat} {ret : Option FieldType} {hh : List (Nat × Nat × Nat × Nat)} {ws : List Cond} {rm : Room} {Pc : Array Value → State → Prop} {Qc : Array Value → State → Outcome → State → Prop} {free : Addr → Prop} {Ts : List Cond} {own : String} {As rest : List Value} {g : JFrame}
    (S : CallFix p m c cc nL s args Ts own) (hM : Met l y ws rm Pc Qc mc ms free) (cw : vx_CSW R s args own index y bytes maxL ret hh ws rm mc ms n) (hp : PreS s H Pc As)
    (hg : g.method = m) (hn : As.length = n) (hsize : g.locals.size = nL) (hstack : g.stack = As.reverse ++ rest) (hW : 2 * g.monitorRoom + (rest.map fun v => v.category).sum ≤ 8) (hdg : decode cc g.pc = .ok (.invokestatic index, 3)) (hf : cells + mc ≤ R.cells ∧ slots + ms ≤ R.slots) :
    va_Run p l e R s m args below meth c H locs cells slots mc ms g rest (Qc As.toArray) (free) := by
  obtain ⟨⟨hrc, hrs, hfr, hlo, hws, hcw⟩, hcode, hini, hy, hlen, hl, hstt⟩ := cw
  have hK : Back l R p e below s args y 3 8 (PreOf R mc ms Pc) (PostOf Qc mc ms free) := va_backW (hh := hh) (bytes := bytes) (maxL := maxL) (ret := ret) hM hp.1 hrc hrs hfr hlo hws hcw (fun a' U hW => word_at hW (Or.inl (by first | rfl | simp [Cond.onTables, Cond.keeps, Cond.steady])) hini)
  obtain ⟨hx, hb, hml, ho, -⟩ := S
  intro T hT X
  obtain ⟨v, vm₁, ⟨U', l2, c2, s2⟩, hW₁, X', ⟨g', mk, t, L, e1, e2, hq, h1, hL, h2, h3⟩, st⟩ := vx_callSW X hx (hh := hh) (bytes := bytes) (maxL := maxL) (ret := ret) ho hl hstt hini hcode hy hK hg (hsize.trans hml.symm) (argsL := As) (rest := rest) (fun sig h => hn.trans (hlen sig h)) hstack hW (by rw [hb]; exact hdg)
    (fun vm₁ hW₁ => ⟨hf.1, hf.2, hp.2 (T.setVm vm₁) hT hW₁⟩)
  dsimp only [Pt.U, Pt.locs, Pt.cells, Pt.slots] at X' e1 e2 h1 h2 h3 st
  subst h1; subst h2; subst h3
  exact ⟨v, (T.setVm vm₁).calling g' mk As.toArray, t, U', L, hT, X', hL, e1, e2, hq, st⟩
/-- not caught here, past rows that name other classes: it goes on to the caller -/
theorem vx_outP {p : Program} {l : Launch} {e : Env} {R : Room} {s : State} {m : MethodId} {args : Array Value} {below : List Frame} {meth : Method} {c : Code} {H : Heap} {locs : List Loc} {cells slots : Nat} {free : Addr → Prop} {ls : Array Slot} {rest : List Value} {Qc : Array Value → State → Outcome → State → Prop} {XC : String → State → State → Prop}
    {pc : Nat} {own E : String} {ce : Cell} {q : Addr} {mc ms : Nat} (hown : s.vm.findClass own = some m.cls) (hlocks : meth.locks = false)
    (hpass : ∀ z ∈ c.exceptionTable.toList, covers z pc = false ∨ (z.catchType ≠ 0 ∧ ∃ nm : String, (Cond.classLink own z.catchType nm).before args s = true ∧ va_Nc E nm s)) (hcell : H[q]? = some ce) (hv : ce.vm = .none) (hcl : s.vm.findClass E = some ce.cls)
    (hx : ∀ t : State, t.heap = H → s.vm.Alike t.vm → XC E s t) (hf : ∀ z ∈ locs, free z.base) (hc : cells ≤ mc) (hs : slots ≤ ms) :
    vx_W p l e R s m args below meth c H locs cells slots (vx_MQ below Qc XC args s mc ms free) (F0 m pc ls rest) q := by
  intro T hT X
  have hpl : e.platform.magicAccessors = ({} : Platform).magicAccessors := by rw [X.admits.platform]
  obtain ⟨vm', hW', X', st⟩ := X.outThrough hlocks q (g := F0 m pc ls rest) rfl rfl rfl (cell := ce) (by rw [hT]; exact hcell) (by rw [hv]; rfl)
    (by obtain ⟨k9, h9, -⟩ := Vm.findClass_spec hcl; exact ⟨k9, h9⟩) (fun z hz => by
      rcases hpass z hz with h | ⟨hz0, nm, hl1, hn1⟩
      · exact Or.inl h
      · obtain ⟨c6, hc6, hcl6⟩ := Cond.classLink_spec hown hl1 e.platform hpl
        obtain ⟨a8, b8, h1, h2, h3⟩ := hn1
        cases Option.some.inj (h1.symm.trans hcl)
        cases Option.some.inj (h2.symm.trans hc6)
        exact Or.inr ⟨hz0, _, hcl6, h3⟩)
  obtain ⟨g₀, hfr⟩ := X'.frames_eq
  have hcell9 : ((T.setVm vm').setFrames (.throwing q :: below)).heap[q]? = some ce := by
    show T.heap[q]? = some ce
    rw [hT]; exact hcell
  have hend : Ended ((T.setVm vm').setFrames (.throwing q :: below)) below (.threw q) := State.frames_setFrames _ (State.cur_lt_of_frames hfr)
  refine ⟨(T.setVm vm').setFrames (.throwing q :: below), ?_, .threw q, X'.here.running, hend, Or.inr ⟨q, rfl, E, ce, locs, hx _ hT (X'.ends _).1.alike, hcell9, hv, hcl, (X'.ends _).1, (X'.ends _).2.mono hc hs, hf⟩⟩
  rw [X.pushThrowing_eq]
  exact st
/-- a thing of a world lies in the heap -/
theorem vx_lt {D : va_G} {cl : List vw_C} {ws : va_W} {H1 : Heap} (h : va_P D cl ws H1) {k : Nat} {q : Nat × va_E} (hk : ws[k]? = some q) : q.1 < H1.size := (h k q hk).lt
end VXS
/-! ===== END ===== -/
/-! ===== BEGIN methods with a table of their own: called by a name, returning or throwing ===== -/
section VXH
/-! vx_backW, vx_callVX, vx_callSX, vx_callVW, vx_runVW, vx_runVX, vx_runSX, vx_ofWH follow the same proofs as their sisters above (Free/Laws.lean, Shelf42/LK1.lean); vx_outP calls Shelf42/NT130.lean (outThrough). -/
section
variable {l : Launch} {R : Room} {p : Program} {e : Env} {below : List Frame} {s : State} {sargs : Array Value} {y : MethodName} {len W9 : Nat}
theorem vx_backW {ws : List Cond} {rm : Room} {Pc : Array Value → State → Prop} {Qc : Array Value → State → Outcome → State → Prop} {XC : String → State → State → Prop} {mc ms : Nat} {free : Addr → Prop} {bytes : ByteArray} {maxL : Nat} {ret : Option FieldType} {hh : List (Nat × Nat × Nat × Nat)}
    (hM : vx_Met l y ws rm Pc Qc XC mc ms free) (hblind : FrameBlind Pc) (hrc : rm.cells = mc) (hrs : rm.slots = ms)
    (hframes : rm.frames + 1 ≤ R.frames) (hlocals : W9 + (maxL + 11) + rm.locals ≤ R.locals)
    (hws : ∀ w ∈ ws, ∀ a' U, s.WarmedH U.vm → w.before a' U = true) (hcode : Cond.codeWith y bytes maxL ret hh ∈ ws) (hinit : ∀ a' U, s.WarmedH U.vm → (Cond.initialized y.cls).before a' U = true) :
    vx_Back l R p e below s sargs y len W9 (PreOf R mc ms Pc) (PostOf Qc mc ms free) (vx_Post XC mc ms free) := by
  intro m meth c A g ig mk a X hg hsize hdg hW hn hp
  have h1 : (headSpec ws rm).pre.before a A.U = true := atoms_intro fun w hw => hws w hw _ _ X.warmed
  have h2 : (Cond.codeWith y bytes maxL ret hh).before a A.U = true := hws _ hcode _ _ X.warmed
  have h3 : (Cond.initialized y.cls).before a A.U = true := hinit _ _ X.warmed
  have h4 : A.cells + (headSpec ws rm).room.cells ≤ R.cells := by rw [show (headSpec ws rm).room.cells = mc from hrc]; exact hp.1
  have h5 : A.slots + (headSpec ws rm).room.slots ≤ R.slots := by rw [show (headSpec ws rm).room.slots = ms from hrs]; exact hp.2.1
  have hPc : Pc a (A.U.calling g mk a) := hblind _ _ _ _ hp.2.2
  obtain ⟨U, Ls, c0, s0⟩ := A
  dsimp only [Pt.U, Pt.locs, Pt.cells, Pt.slots] at h1 h2 h3 h4 h5 X hn hPc ⊢
  obtain ⟨m9, methY, cY, hn9, hmY, hcY, -, hlY, -⟩ := Cond.codeWith_spec h2
  cases Option.some.inj (hn9.symm.trans hn)
  obtain ⟨kY, hkY, -⟩ := className_of_methodNamed hn
  have hinitY : kY.init = .initialized := Cond.initialized_spec (findClass_of_methodNamed hn) hkY h3
  have h : At U g.method c below := by rw [hg]; exact X.here
  have hlocals9 : W9 + (maxL + 11) + (headSpec ws rm).room.locals ≤ R.locals := hlocals
  have happ : (headSpec ws rm).appliesLoose y e.platform (U.calling g mk a) = true :=
    Spec.appliesLoose_calling (g := g) h hdg hn hkY hinitY
      (X.room_calling (g := g) (R' := (headSpec ws rm).room) hsize hmY hcY hframes (by rw [hlY]; omega) h4 h5) h1
  obtain ⟨mid, hmid⟩ := h.above
  have hfr : (U.setTop g).frames = (.java g :: mid) ++ below := by rw [State.frames_setTop' g h.top, hmid]; rfl
  obtain ⟨o, s₂, hsteps, -, hend, hq⟩ := Steps.callFree hM p X.admits X.cas X.clock (acts := []) hfr happ hPc trivial
  have hq' : vx_Q Qc XC mc ms free a (U.calling g mk a) o s₂ := hq
  rw [State.frames_setTop' g h.top] at hend
  obtain ⟨g₀, hg0⟩ := Option.isSome_iff_exists.mp h.top
  obtain ⟨r, hr⟩ := State.topJava?_eq_some.mp hg0
  have hr' : (({ U with heap := s₂.heap, slotsUsed := s₂.slotsUsed } : State).setVm s₂.vm).frames = .java g₀ :: r := hr
  rcases hq' with ⟨hqc, L, hfe, hL⟩ | ⟨q, rfl, E, ce, L, hx, hce, hcv, hcl, hW₂, hsm, hL⟩
  · obtain ⟨⟨v, rfl⟩, hW₂, e2, q2, q3, q4, q5, q6⟩ := id hfe
    have e3 : s₂ = ({ (U.calling g mk a).setFrames s₂.frames with heap := s₂.heap, slotsUsed := s₂.slotsUsed } : State).setVm s₂.vm := by
      have : s₂ = ({ s₂ with vm := (U.calling g mk a).vm } : State).setVm s₂.vm := rfl
      rw [e2] at this
      exact this
    obtain ⟨c₂, i₂, len₂, hc₂, hd₂, hf₂⟩ := hend
    have hW' : U.WarmedH s₂.vm := hW₂
    have hcc : c₂ = c := by
      have h1 : s₂.code? g.method = U.code? g.method := by
        rw [State.code?_eq, State.code?_eq, hW'.alike.method?]
      exact Option.some.inj (hc₂.symm.trans (h1.trans h.code))
    subst hcc
    have hlen : len₂ = len := by rw [hdg] at hd₂; cases hd₂; rfl
    subst hlen
    have hs₂ : s₂ = (({ U with heap := s₂.heap, slotsUsed := s₂.slotsUsed } : State).setVm s₂.vm).setTop { g with pc := g.pc + len₂, stack := v.toList ++ g.stack } := by
      refine e3.trans ?_
      rw [hf₂, State.calling_eq h.top, State.setFrames_setFrames, State.setTop_of_frames _ hr', hr]
      rfl
    have hsame : U.sameButNew ({ U with heap := s₂.heap, slotsUsed := s₂.slotsUsed } : State) L mc ms := by
      refine ⟨?_, q2, q3, q4, q5, q6⟩
      obtain ⟨t, ht, -⟩ := State.frames_cons hr
      show ({ U with heap := s₂.heap, slotsUsed := s₂.slotsUsed } : State) = { U.setFrames U.frames with heap := s₂.heap, slotsUsed := s₂.slotsUsed }
      rw [State.setFrames_self ht]
    subst hg
    refine Or.inl ⟨v, ⟨(({ U with heap := s₂.heap, slotsUsed := s₂.slotsUsed } : State).setVm s₂.vm), Ls ++ L, c0 + mc, s0 + ms⟩,
      ⟨X.admits, X.cas, X.clock, X.frames, X.room, X.hears, X.method, X.code, (X.here.setHeapUsed s₂.heap s₂.slotsUsed).setVm hW'.alike, X.tail, State.WarmedH.trans X.warmed hW', X.limits, X.bytes, X.same.trans (hsame.setVm s.vm)⟩,
      ⟨g, mk, s₂, L, rfl, rfl, hqc, rfl, hL, rfl, rfl⟩, ?_⟩
    show Steps p.tables e below _ ((({ U with heap := s₂.heap, slotsUsed := s₂.slotsUsed } : State).setVm s₂.vm).setTop { g with pc := g.pc + len₂, stack := v.toList ++ g.stack })
    rw [← hs₂]
    exact hsteps
  · obtain ⟨e2, q2, q3, q4, q5, q6⟩ := id hsm
    have e3 : s₂ = ({ (U.calling g mk a).setFrames s₂.frames with heap := s₂.heap, slotsUsed := s₂.slotsUsed } : State).setVm s₂.vm := by
      have : s₂ = ({ s₂ with vm := (U.calling g mk a).vm } : State).setVm s₂.vm := rfl
      rw [e2] at this
      exact this
    have hf₂ : s₂.frames = .throwing q :: .java g :: U.frames.tail := hend
    have hW' : U.WarmedH s₂.vm := hW₂
    have hs₂ : s₂ = ((({ U with heap := s₂.heap, slotsUsed := s₂.slotsUsed } : State).setVm s₂.vm).setTop g).pushFrame (.throwing q) := by
      refine e3.trans ?_
      rw [hf₂, State.calling_eq h.top, State.setFrames_setFrames, State.pushFrame, State.frames_setTop _ hr', State.setTop_of_frames _ hr', State.setFrames_setFrames, hr]
      rfl
    have hsame : U.sameButNew ({ U with heap := s₂.heap, slotsUsed := s₂.slotsUsed } : State) L mc ms := by
      refine ⟨?_, q2, q3, q4, q5, q6⟩
      obtain ⟨t, ht, -⟩ := State.frames_cons hr
      show ({ U with heap := s₂.heap, slotsUsed := s₂.slotsUsed } : State) = { U.setFrames U.frames with heap := s₂.heap, slotsUsed := s₂.slotsUsed }
      rw [State.setFrames_self ht]
    subst hg
    refine Or.inr ⟨q, ⟨(({ U with heap := s₂.heap, slotsUsed := s₂.slotsUsed } : State).setVm s₂.vm), Ls ++ L, c0 + mc, s0 + ms⟩,
      ⟨X.admits, X.cas, X.clock, X.frames, X.room, X.hears, X.method, X.code, (X.here.setHeapUsed s₂.heap s₂.slotsUsed).setVm hW'.alike, X.tail, State.WarmedH.trans X.warmed hW', X.limits, X.bytes, X.same.trans (hsame.setVm s.vm)⟩,
      ⟨g, mk, s₂, L, E, ce, rfl, rfl, hx, hce, hcv, hcl, rfl, hL, rfl, rfl⟩, ?_⟩
    show Steps p.tables e below _ (((({ U with heap := s₂.heap, slotsUsed := s₂.slotsUsed } : State).setVm s₂.vm).setTop g).pushFrame (.throwing q))
    rw [← hs₂]
    exact hsteps
end
variable {p : Program} {l : Launch} {e : Env} {R : Room} {s : State} {m : MethodId} {args : Array Value} {below : List Frame} {meth : Method} {c : Code} {T : State} {H : Heap} {locs : List Loc} {cells slots : Nat}
theorem vx_callVX (X : Stand p l e R s m args below meth c T locs cells slots) (hexec : p.tables.exec = Jvm.exec) {own C : String} {index : Nat} {y : MethodName} {bytes : ByteArray} {maxL : Nat} {ret : Option FieldType} {hh : List (Nat × Nat × Nat × Nat)}
    (hown : s.vm.findClass own = some m.cls) (hlink : (Cond.methodLink own index y).before args s = true) (hinst : (Cond.instanceMethod y).before args s = true) (hsel : (Cond.selects C y y).before args s = true)
    (hcode : (Cond.codeWith y bytes maxL ret hh).before args s = true) (hy : y.cls ≠ "java/lang/invoke/MethodHandle" ∧ y.cls ≠ "java/lang/invoke/VarHandle")
    {W9 : Nat} {Pre : Pt → Array Value → Prop} {Post : Pt → Array Value → Option Value → Pt → Prop} {PostX : Pt → Array Value → Addr → Pt → Prop} (hK : vx_Back l R p e below s args y 3 W9 Pre Post PostX)
    {b : Addr} {cellB : Cell} (hcell : T.heap[b]? = some cellB) (hobj : cellB.vm.isStatics = false) (hcls : s.vm.findClass C = some cellB.cls)
    {g : JFrame} (hg : g.method = m) (hsize : g.locals.size = c.maxLocals) {argsL rest : List Value} (hlen : ∀ sig, parseMethodDescriptor y.desc = some sig → argsL.length = sig.parameters.length)
    (hstack : g.stack = argsL.reverse ++ .ref b :: rest) (hW : 2 * g.monitorRoom + (rest.map fun v => v.category).sum ≤ W9) (hdg : decode c.code g.pc = .ok (.invokevirtual index, 3))
    (hpre : ∀ vm₁, s.WarmedH vm₁ → Pre ⟨T.setVm vm₁, locs, cells, slots⟩ (Value.ref b :: argsL).toArray) :
    (∃ (v : Option Value) (vm₁ : Vm) (B : Pt), s.WarmedH vm₁ ∧ Stand p l e R s m args below meth c B.U B.locs B.cells B.slots ∧ Post ⟨T.setVm vm₁, locs, cells, slots⟩ (Value.ref b :: argsL).toArray v B ∧
      ∀ target, Steps p.tables e below (B.U.setTop { g with pc := g.pc + 3, stack := v.toList ++ rest }) target → Steps p.tables e below (T.setTop g) target) ∨
    (∃ (q : Addr) (vm₁ : Vm) (B : Pt), s.WarmedH vm₁ ∧ Stand p l e R s m args below meth c B.U B.locs B.cells B.slots ∧ PostX ⟨T.setVm vm₁, locs, cells, slots⟩ (Value.ref b :: argsL).toArray q B ∧
      Steps p.tables e below (T.setTop g) ((B.U.setTop { g with stack := rest }).pushFrame (.throwing q))) := by
  obtain ⟨mk, methM, hnamed, hmethM, hstM, habM⟩ := Cond.instanceMethod_spec hinst
  obtain ⟨m8, methM', cM, hn8, hmethM', -, -, -, -, -, -, hsigM⟩ := Cond.codeWith_spec hcode
  cases Option.some.inj (hn8.symm.trans hnamed)
  cases hmethM.symm.trans hmethM'
  obtain ⟨c2, r2, m2, q1, q2, q3, q4, kP, hkP, hkPi⟩ := Cond.selects_spec hsel
  cases hcls.symm.trans q1
  cases (State.methodFound?_of_named hnamed hy).symm.trans q2
  cases hnamed.symm.trans q3
  have hselP : selectMethod e.platform s.vm cellB.cls mk = .method mk := by rw [Launch.admits_selectMethod X.admits]; exact q4
  obtain ⟨vm₁, X₁, hstep₁⟩ := X.invokevirtual hexec hown hlink hnamed hmethM hstM hkP hkPi hy (a := b) (cell := cellB) hcell
    (fun z h => by rw [h] at hobj; cases hobj) hselP hmethM habM hkP hkPi (g := g) hg (argsL := argsL) (rest := rest) (hlen _ hsigM) hstack hdg
  rcases hK m meth c ⟨T.setVm vm₁, locs, cells, slots⟩ { g with stack := rest } (.invokevirtual index) mk (Value.ref b :: argsL).toArray X₁ hg hsize hdg hW (X₁.named hnamed) (hpre vm₁ X₁.warmed) with ⟨v, B, X', hpost, hsteps⟩ | ⟨q, B, X', hpost, hsteps⟩
  · exact Or.inl ⟨v, vm₁, B, X₁.warmed, X', hpost, fun target h => hstep₁ _ fun acts => by rw [doInvoke_state]; exact hsteps.trans h⟩
  · exact Or.inr ⟨q, vm₁, B, X₁.warmed, X', hpost, hstep₁ _ fun acts => by rw [doInvoke_state]; exact hsteps⟩
theorem vx_callSX (X : Stand p l e R s m args below meth c T locs cells slots) (hexec : p.tables.exec = Jvm.exec) {own : String} {index : Nat} {y : MethodName} {bytes : ByteArray} {maxL : Nat} {ret : Option FieldType} {hh : List (Nat × Nat × Nat × Nat)}
    (hown : s.vm.findClass own = some m.cls) (hlink : (Cond.methodLink own index y).before args s = true) (hstat : (Cond.static y).before args s = true) (hinit : (Cond.initialized y.cls).before args s = true)
    (hcode : (Cond.codeWith y bytes maxL ret hh).before args s = true) (hy : y.cls ≠ "java/lang/invoke/MethodHandle" ∧ y.cls ≠ "java/lang/invoke/VarHandle")
    {W9 : Nat} {Pre : Pt → Array Value → Prop} {Post : Pt → Array Value → Option Value → Pt → Prop} {PostX : Pt → Array Value → Addr → Pt → Prop} (hK : vx_Back l R p e below s args y 3 W9 Pre Post PostX)
    {g : JFrame} (hg : g.method = m) (hsize : g.locals.size = c.maxLocals) {argsL rest : List Value} (hlen : ∀ sig, parseMethodDescriptor y.desc = some sig → argsL.length = sig.parameters.length)
    (hstack : g.stack = argsL.reverse ++ rest) (hW : 2 * g.monitorRoom + (rest.map fun v => v.category).sum ≤ W9) (hdg : decode c.code g.pc = .ok (.invokestatic index, 3))
    (hpre : ∀ vm₁, s.WarmedH vm₁ → Pre ⟨T.setVm vm₁, locs, cells, slots⟩ argsL.toArray) :
    (∃ (v : Option Value) (vm₁ : Vm) (B : Pt), s.WarmedH vm₁ ∧ Stand p l e R s m args below meth c B.U B.locs B.cells B.slots ∧ Post ⟨T.setVm vm₁, locs, cells, slots⟩ argsL.toArray v B ∧
      ∀ target, Steps p.tables e below (B.U.setTop { g with pc := g.pc + 3, stack := v.toList ++ rest }) target → Steps p.tables e below (T.setTop g) target) ∨
    (∃ (q : Addr) (vm₁ : Vm) (B : Pt), s.WarmedH vm₁ ∧ Stand p l e R s m args below meth c B.U B.locs B.cells B.slots ∧ PostX ⟨T.setVm vm₁, locs, cells, slots⟩ argsL.toArray q B ∧
      Steps p.tables e below (T.setTop g) ((B.U.setTop { g with stack := rest }).pushFrame (.throwing q))) := by
  obtain ⟨mk, methM, cM, hnamed, hmethM, -, -, -, -, -, -, hsigM⟩ := Cond.codeWith_spec hcode
  have hstatic : methM.isStatic = true := Cond.static_spec hnamed hmethM hstat
  obtain ⟨kP, hkP, -⟩ := className_of_methodNamed hnamed
  have hinitP : kP.init = .initialized := Cond.initialized_spec (findClass_of_methodNamed hnamed) hkP hinit
  obtain ⟨vm₁, X₁, hstep₁⟩ := X.invokestatic hexec hown hlink hnamed hmethM hstatic hkP hinitP hy (g := g) hg (argsL := argsL) (rest := rest) (hlen _ hsigM) hstack hdg
  rcases hK m meth c ⟨T.setVm vm₁, locs, cells, slots⟩ { g with stack := rest } (.invokestatic index) mk argsL.toArray X₁ hg hsize hdg hW (X₁.named hnamed) (hpre vm₁ X₁.warmed) with ⟨v, B, X', hpost, hsteps⟩ | ⟨q, B, X', hpost, hsteps⟩
  · exact Or.inl ⟨v, vm₁, B, X₁.warmed, X', hpost, fun target h => hstep₁ _ fun acts => by rw [doInvoke_state]; exact hsteps.trans h⟩
  · exact Or.inr ⟨q, vm₁, B, X₁.warmed, X', hpost, hstep₁ _ fun acts => by rw [doInvoke_state]; exact hsteps⟩
theorem vx_callVW (X : Stand p l e R s m args below meth c T locs cells slots) (hexec : p.tables.exec = Jvm.exec) {own C : String} {index : Nat} {y : MethodName} {bytes : ByteArray} {maxL : Nat} {ret : Option FieldType} {hh : List (Nat × Nat × Nat × Nat)}
    (hown : s.vm.findClass own = some m.cls) (hlink : (Cond.methodLink own index y).before args s = true) (hinst : (Cond.instanceMethod y).before args s = true) (hsel : (Cond.selects C y y).before args s = true)
    (hcode : (Cond.codeWith y bytes maxL ret hh).before args s = true) (hy : y.cls ≠ "java/lang/invoke/MethodHandle" ∧ y.cls ≠ "java/lang/invoke/VarHandle")
    {W9 : Nat} {Pre : Pt → Array Value → Prop} {Post : Pt → Array Value → Option Value → Pt → Prop} (hK : Back l R p e below s args y 3 W9 Pre Post)
    {b : Addr} {cellB : Cell} (hcell : T.heap[b]? = some cellB) (hobj : cellB.vm.isStatics = false) (hcls : s.vm.findClass C = some cellB.cls)
    {g : JFrame} (hg : g.method = m) (hsize : g.locals.size = c.maxLocals) {argsL rest : List Value} (hlen : ∀ sig, parseMethodDescriptor y.desc = some sig → argsL.length = sig.parameters.length)
    (hstack : g.stack = argsL.reverse ++ .ref b :: rest) (hW : 2 * g.monitorRoom + (rest.map fun v => v.category).sum ≤ W9) (hdg : decode c.code g.pc = .ok (.invokevirtual index, 3))
    (hpre : ∀ vm₁, s.WarmedH vm₁ → Pre ⟨T.setVm vm₁, locs, cells, slots⟩ (Value.ref b :: argsL).toArray) :
    ∃ (v : Option Value) (vm₁ : Vm) (B : Pt), s.WarmedH vm₁ ∧ Stand p l e R s m args below meth c B.U B.locs B.cells B.slots ∧ Post ⟨T.setVm vm₁, locs, cells, slots⟩ (Value.ref b :: argsL).toArray v B ∧
      ∀ target, Steps p.tables e below (B.U.setTop { g with pc := g.pc + 3, stack := v.toList ++ rest }) target → Steps p.tables e below (T.setTop g) target := by
  obtain ⟨mk, methM, hnamed, hmethM, hstM, habM⟩ := Cond.instanceMethod_spec hinst
  obtain ⟨m8, methM', cM, hn8, hmethM', -, -, -, -, -, -, hsigM⟩ := Cond.codeWith_spec hcode
  cases Option.some.inj (hn8.symm.trans hnamed)
  cases hmethM.symm.trans hmethM'
  obtain ⟨c2, r2, m2, q1, q2, q3, q4, kP, hkP, hkPi⟩ := Cond.selects_spec hsel
  cases hcls.symm.trans q1
  cases (State.methodFound?_of_named hnamed hy).symm.trans q2
  cases hnamed.symm.trans q3
  have hselP : selectMethod e.platform s.vm cellB.cls mk = .method mk := by rw [Launch.admits_selectMethod X.admits]; exact q4
  obtain ⟨vm₁, X₁, hstep₁⟩ := X.invokevirtual hexec hown hlink hnamed hmethM hstM hkP hkPi hy (a := b) (cell := cellB) hcell
    (fun z h => by rw [h] at hobj; cases hobj) hselP hmethM habM hkP hkPi (g := g) hg (argsL := argsL) (rest := rest) (hlen _ hsigM) hstack hdg
  obtain ⟨v, B, X', hpost, hsteps⟩ := hK m meth c ⟨T.setVm vm₁, locs, cells, slots⟩ { g with stack := rest } (.invokevirtual index) mk (Value.ref b :: argsL).toArray X₁ hg hsize hdg hW (X₁.named hnamed) (hpre vm₁ X₁.warmed)
  exact ⟨v, vm₁, B, X₁.warmed, X', hpost, fun target h => hstep₁ _ fun acts => by rw [doInvoke_state]; exact hsteps.trans h⟩
abbrev vx_CVW (R : Room) (s : State) (args : Array Value) (own C : String) (index : Nat) (y : MethodName) (bytes : ByteArray) (maxL : Nat) (ret : Option FieldType) (hh : List (Nat × Nat × Nat × Nat)) (ws : List Cond) (rm : Room) (mc ms n : Nat) : Prop :=
  (rm.cells = mc ∧ rm.slots = ms ∧ rm.frames + 1 ≤ R.frames ∧ 8 + (maxL + 11) + rm.locals ≤ R.locals ∧ (∀ w ∈ ws, ∀ (a' : Array Value) (U : State), s.WarmedH U.vm → w.before a' U = true) ∧ Cond.codeWith y bytes maxL ret hh ∈ ws) ∧
  (Cond.codeWith y bytes maxL ret hh).before args s = true ∧ (Cond.initialized y.cls).before args s = true ∧ (y.cls ≠ "java/lang/invoke/MethodHandle" ∧ y.cls ≠ "java/lang/invoke/VarHandle") ∧
  (∀ sig, parseMethodDescriptor y.desc = some sig → n = sig.parameters.length) ∧ (Cond.methodLink own index y).before args s = true ∧ (Cond.instanceMethod y).before args s = true ∧ (Cond.selects C y y).before args s = true
theorem vx_cwVW {own C : String} {index maxL mc ms : Nat} {y : MethodName} {bytes : ByteArray} {ret : Option FieldType} {hh : List (Nat × Nat × Nat × Nat)} {Ts ws ws' : List Cond} {rm : Room} (n : Nat) (ht : ∀ w ∈ Ts, w.before args s = true) (hT : GoodIn Ts (wsV own index C y ws)) (hw : ws = Cond.codeWith y bytes maxL ret hh :: ws') (hrc : rm.cells = mc) (hrs : rm.slots = ms)
    (hd : y.cls = C ∧ y.cls ≠ "java/lang/invoke/MethodHandle" ∧ y.cls ≠ "java/lang/invoke/VarHandle" ∧ (parseMethodDescriptor y.desc).map (fun d => d.parameters.length) = some n) (hR : rm.frames + 1 ≤ R.frames ∧ 8 + (maxL + 11) + rm.locals ≤ R.locals) :
    vx_CVW R s args own C index y bytes maxL ret hh ws rm mc ms n := by
  obtain ⟨hC, hd⟩ := hd
  subst hC
  have ok : ∀ w ∈ wsV own index y.cls y ws, w.before args s = true := fun w h => ht w (hT w h).1
  have hG : GoodIn Ts ws := fun w h => hT w (by unfold wsV; exact List.mem_append_right _ h)
  have hc : Cond.codeWith y bytes maxL ret hh ∈ ws := by rw [hw]; exact List.mem_cons_self
  refine ⟨⟨hrc, hrs, hR.1, hR.2, pay_in ht hG, hc⟩, ht _ (hG _ hc).1, ok _ (by simp [wsV]), ⟨hd.1, hd.2.1⟩, fun sig h => ?_, ok _ (by simp [wsV]), ok _ (by simp [wsV]), ok _ (by simp [wsV])⟩
  have h2 := hd.2.2
  rw [h] at h2
  exact (Option.some.inj h2).symm
theorem vx_runVW {y : MethodName} {bytes cc : ByteArray} {maxL nL mc ms n index : Nat} {ret : Option FieldType} {hh : List (Nat × Nat × Nat × Nat)} {ws : List Cond} {rm : Room} {Pc : Array Value → State → Prop} {Qc : Array Value → State → Outcome → State → Prop} {free : Addr → Prop} {Ts : List Cond} {own C : String} {b : Addr} {As rest : List Value} {g : JFrame}
    (S : CallFix p m c cc nL s args Ts own) (hM : Met l y ws rm Pc Qc mc ms free) (cw : vx_CVW R s args own C index y bytes maxL ret hh ws rm mc ms n) (hp : PreV s H C b Pc As)
    (hg : g.method = m) (hn : As.length = n) (hsize : g.locals.size = nL) (hstack : g.stack = As.reverse ++ .ref b :: rest) (hW : 2 * g.monitorRoom + (rest.map fun v => v.category).sum ≤ 8) (hdg : decode cc g.pc = .ok (.invokevirtual index, 3)) (hf : cells + mc ≤ R.cells ∧ slots + ms ≤ R.slots) :
    va_Run p l e R s m args below meth c H locs cells slots mc ms g rest (Qc (Value.ref b :: As).toArray) free := by
  obtain ⟨⟨hrc, hrs, hfr, hlo, hws, hcw⟩, hcode, hini, hy, hlen, hl, hin, hse⟩ := cw
  have hK : Back l R p e below s args y 3 8 (PreOf R mc ms Pc) (PostOf Qc mc ms free) := va_backW (hh := hh) (bytes := bytes) (maxL := maxL) (ret := ret) hM hp.1 hrc hrs hfr hlo hws hcw (fun a' U hW => word_at hW (Or.inl (by first | rfl | simp [Cond.onTables, Cond.keeps, Cond.steady])) hini)
  obtain ⟨hx, hb, hml, ho, -⟩ := S
  obtain ⟨-, ⟨cellB, hcB, hoB, hclB⟩, hPc⟩ := hp
  intro T hT X
  obtain ⟨v, vm₁, ⟨U', l2, c2, s2⟩, hW₁, X', ⟨g', mk, t, L, e1, e2, hq, h1, hL, h2, h3⟩, st⟩ := vx_callVW X hx (C := C) (hh := hh) (bytes := bytes) (maxL := maxL) (ret := ret) ho hl hin hse hcode hy hK (by rw [hT]; exact hcB) hoB hclB hg (hsize.trans hml.symm) (argsL := As) (rest := rest) (fun sig h => hn.trans (hlen sig h)) hstack hW (by rw [hb]; exact hdg)
    (fun vm₁ hW₁ => ⟨hf.1, hf.2, hPc (T.setVm vm₁) hT hW₁⟩)
  dsimp only [Pt.U, Pt.locs, Pt.cells, Pt.slots] at X' e1 e2 h1 h2 h3 st
  subst h1; subst h2; subst h3
  exact ⟨v, (T.setVm vm₁).calling g' mk (Value.ref b :: As).toArray, t, U', L, hT, X', hL, e1, e2, hq, st⟩
section
variable {y : MethodName} {bytes cc : ByteArray} {maxL nL mc ms n index : Nat} {ret : Option FieldType} {ws : List Cond} {rm : Room} {Pc : Array Value → State → Prop} {Qc : Array Value → State → Outcome → State → Prop} {XC : String → State → State → Prop} {free : Addr → Prop} {Ts : List Cond} {own C : String} {b : Addr} {As rest : List Value} {g : JFrame}
theorem vx_runVX {hh : List (Nat × Nat × Nat × Nat)} (S : CallFix p m c cc nL s args Ts own) (hM : vx_Met l y ws rm Pc Qc XC mc ms free) (cw : vx_CVW R s args own C index y bytes maxL ret hh ws rm mc ms n) (hp : PreV s H C b Pc As)
    (hg : g.method = m) (hn : As.length = n) (hsize : g.locals.size = nL) (hstack : g.stack = As.reverse ++ .ref b :: rest) (hW : 2 * g.monitorRoom + (rest.map fun v => v.category).sum ≤ 8) (hdg : decode cc g.pc = .ok (.invokevirtual index, 3)) (hf : cells + mc ≤ R.cells ∧ slots + ms ≤ R.slots) :
    vx_Run p l e R s m args below meth c H locs cells slots mc ms g rest (Qc (Value.ref b :: As).toArray) XC free := by
  obtain ⟨⟨hrc, hrs, hfr, hlo, hws, hcw⟩, hcode, hini, hy, hlen, hl, hin, hse⟩ := cw
  have hK : vx_Back l R p e below s args y 3 8 (PreOf R mc ms Pc) (PostOf Qc mc ms free) (vx_Post XC mc ms free) := vx_backW (hh := hh) (bytes := bytes) (maxL := maxL) (ret := ret) hM hp.1 hrc hrs hfr hlo hws hcw (fun a' U hW => word_at hW (Or.inl (by first | rfl | simp [Cond.onTables, Cond.keeps, Cond.steady])) hini)
  obtain ⟨hx, hb, hml, ho, -⟩ := S
  obtain ⟨-, ⟨cellB, hcB, hoB, hclB⟩, hPc⟩ := hp
  intro T hT X
  rcases vx_callVX X hx (C := C) (hh := hh) (bytes := bytes) (maxL := maxL) (ret := ret) ho hl hin hse hcode hy hK (by rw [hT]; exact hcB) hoB hclB hg (hsize.trans hml.symm) (argsL := As) (rest := rest) (fun sig h => hn.trans (hlen sig h)) hstack hW (by rw [hb]; exact hdg)
    (fun vm₁ hW₁ => ⟨hf.1, hf.2, hPc (T.setVm vm₁) hT hW₁⟩) with ⟨v, vm₁, ⟨U', l2, c2, s2⟩, hW₁, X', ⟨g', mk, t, L, e1, e2, hq, h1, hL, h2, h3⟩, st⟩ | ⟨q, vm₁, ⟨U', l2, c2, s2⟩, hW₁, X', ⟨g', mk, t, L, E, ce, e1, e2, hq, hce, hcv, hcl, h1, hL, h2, h3⟩, st⟩
  · dsimp only [Pt.U, Pt.locs, Pt.cells, Pt.slots] at X' e1 e2 h1 h2 h3 st
    subst h1; subst h2; subst h3
    exact Or.inl ⟨v, (T.setVm vm₁).calling g' mk (Value.ref b :: As).toArray, t, U', L, hT, X', hL, e1, e2, hq, st⟩
  · dsimp only [Pt.U, Pt.locs, Pt.cells, Pt.slots] at X' e1 e2 h1 h2 h3 st hcl
    subst h1; subst h2; subst h3
    exact Or.inr ⟨q, (T.setVm vm₁).calling g' mk (Value.ref b :: As).toArray, t, U', L, E, ce, hT, X', hL, e1, e2, hq, hce, hcv, vx_cls hW₁ hcl, st⟩
theorem vx_runSX {hh : List (Nat × Nat × Nat × Nat)} (S : CallFix p m c cc nL s args Ts own) (hM : vx_Met l y ws rm Pc Qc XC mc ms free) (cw : vx_CSW R s args own index y bytes maxL ret hh ws rm mc ms n) (hp : PreS s H Pc As)
    (hg : g.method = m) (hn : As.length = n) (hsize : g.locals.size = nL) (hstack : g.stack = As.reverse ++ rest) (hW : 2 * g.monitorRoom + (rest.map fun v => v.category).sum ≤ 8) (hdg : decode cc g.pc = .ok (.invokestatic index, 3)) (hf : cells + mc ≤ R.cells ∧ slots + ms ≤ R.slots) :
    vx_Run p l e R s m args below meth c H locs cells slots mc ms g rest (Qc As.toArray) XC free := by
  obtain ⟨⟨hrc, hrs, hfr, hlo, hws, hcw⟩, hcode, hini, hy, hlen, hl, hstt⟩ := cw
  have hK : vx_Back l R p e below s args y 3 8 (PreOf R mc ms Pc) (PostOf Qc mc ms free) (vx_Post XC mc ms free) := vx_backW (hh := hh) (bytes := bytes) (maxL := maxL) (ret := ret) hM hp.1 hrc hrs hfr hlo hws hcw (fun a' U hW => word_at hW (Or.inl (by first | rfl | simp [Cond.onTables, Cond.keeps, Cond.steady])) hini)
  obtain ⟨hx, hb, hml, ho, -⟩ := S
  intro T hT X
  rcases vx_callSX X hx (hh := hh) (bytes := bytes) (maxL := maxL) (ret := ret) ho hl hstt hini hcode hy hK hg (hsize.trans hml.symm) (argsL := As) (rest := rest) (fun sig h => hn.trans (hlen sig h)) hstack hW (by rw [hb]; exact hdg)
    (fun vm₁ hW₁ => ⟨hf.1, hf.2, hp.2 (T.setVm vm₁) hT hW₁⟩) with ⟨v, vm₁, ⟨U', l2, c2, s2⟩, hW₁, X', ⟨g', mk, t, L, e1, e2, hq, h1, hL, h2, h3⟩, st⟩ | ⟨q, vm₁, ⟨U', l2, c2, s2⟩, hW₁, X', ⟨g', mk, t, L, E, ce, e1, e2, hq, hce, hcv, hcl, h1, hL, h2, h3⟩, st⟩
  · dsimp only [Pt.U, Pt.locs, Pt.cells, Pt.slots] at X' e1 e2 h1 h2 h3 st
    subst h1; subst h2; subst h3
    exact Or.inl ⟨v, (T.setVm vm₁).calling g' mk As.toArray, t, U', L, hT, X', hL, e1, e2, hq, st⟩
  · dsimp only [Pt.U, Pt.locs, Pt.cells, Pt.slots] at X' e1 e2 h1 h2 h3 st hcl
    subst h1; subst h2; subst h3
    exact Or.inr ⟨q, (T.setVm vm₁).calling g' mk As.toArray, t, U', L, E, ce, hT, X', hL, e1, e2, hq, hce, hcv, vx_cls hW₁ hcl, st⟩
end
end VXH
theorem vx_ofWH {l : Launch} {y : MethodName} {ws ws' : List Cond} {rm : Room} {Pc : Array Value → State → Prop} {Qc : Array Value → State → Outcome → State → Prop} {XC : String → State → State → Prop} {mc ms : Nat} {free : Addr → Prop} {cc : ByteArray} {maxL : Nat} {ret : Option FieldType} {hh : List (Nat × Nat × Nat × Nat)}
    (hy : plainName y.cls = true) (hw : ws = Cond.codeWith y cc maxL ret hh :: ws')
    (body : ∀ p e s m args below meth c s₁, BodyLoose p l y (headSpec ws rm) cc maxL ret e s m args below meth c s₁ → c.maxLocals = maxL → Pc args s →
      W p l e (headSpec ws rm).room s m args below meth c s.heap [] 0 0 (vx_MQ below Qc XC args s mc ms free) (entryFrame m args maxL)) : vx_Met l y ws rm Pc Qc XC mc ms free := by
  refine MetFree.of_bodyS (code := cc) (maxLocals := maxL) (ret := ret) hy ?_ ?_
  · intro args s m h hn
    obtain ⟨m9, meth, c, hn9, h1, h2, h3, h4, -, h5, h6, -⟩ := Cond.codeWith_spec (atoms_spec (ws := ws) h _ (by rw [hw]; exact List.mem_cons_self))
    cases hn.symm.trans hn9
    exact ⟨meth, c, h1, h2, h3, h4, h5, h6⟩
  · intro p e s m args below meth c s₁ B hml hP _
    have hh0 : s₁.heap = s.heap := by rw [B.state]; rfl
    obtain ⟨t, a1, o, b1, b2, b3⟩ := body p e s m args below meth c s₁ B hml hP s₁ hh0 (Stand.of_body B)
    exact ⟨t, o, a1, b1, b2, b3⟩
/-! ===== END ===== -/

/-! ===== BEGIN what the machine throws by itself, no traces kept ===== -/
section VXM
set_option maxHeartbeats 1000000 in
/-- the machine throws cls with the message text, no traces kept: from its note over the frame g to 'throwing' over the same frame (follows the proofs of Stand.vmThrowsMessage, Shelf/KitTracedVmS.lean, and Stand.throwsMessageColdBareV, StandMessageColdV.lean, without the step out of the frame) -/
theorem vx_vmAt {p : Program} {l : Launch} {e : Env} {R : Room} {s : State} {m₀ : MethodId} {args : Array Value} {below : List Frame} {meth : Method} {c : Code} {W : State} {locs : List Loc} {cells slots : Nat}
    (X : Stand p l e R s m₀ args below meth c W locs cells slots) (hexec : p.tables.exec = Jvm.exec) (htr : e.platform.stackTraces = false) {cls : String} {names : List String} {text : String}
    (hcls : Bundle.fit cls = true) (hnames : ∀ n ∈ names, Bundle.fit n = true) (hsoe : (cls == "java/lang/StackOverflowError") = false) (hoom : (cls == "java/lang/OutOfMemoryError") = false)
    (h : ∀ a ∈ Bundle.messageArmAtoms cls names, a.before args s = true)
    (hlocs : ∀ x ∈ locs, ∀ cell, s.heap[x.base]? = some cell → cell.vm.isStatics = false)
    (htext : (text == notModelled) = false) (hlimit : ¬ (stringBytes (stringToUtf16 text)).size > e.platform.arrayLengthLimit) (hheap : ¬ (stringBytes (stringToUtf16 text)).size * componentBytes .byte > e.platform.maxHeapBytes)
    {g : JFrame} (hg : g.method = m₀) (hsize : g.locals.size = c.maxLocals)
    (hRframes : names.length + 4 < R.frames) (hRlocals : 2 * g.monitorRoom + (g.stack.map fun v => v.category).sum + 10240 ≤ R.locals) (hshort : 13 * names.length + 55 ≤ 10240)
    (hRcells : cells + 3 ≤ R.cells) (hRslots : slots + ((stringBytes (stringToUtf16 text)).size + 4 + 6) ≤ R.slots) (hlocks : meth.locks = false) :
    ∃ (S : State) (q : Addr) (ce : Cell), (∀ target, Steps p.tables e below ((S.setTop g).pushFrame (.throwing q)) target → Steps p.tables e below ((W.setTop g).pushFrame (.throwNew cls (some text) none)) target) ∧
      Stand p l e R s m₀ args below meth c S locs (cells + 3) (slots + ((stringBytes (stringToUtf16 text)).size + 4 + 6)) ∧ S.heap[q]? = some ce ∧ s.vm.findClass cls = some ce.cls ∧ ce.vm = .none := by
  have howns : e.platform.frameOwnsMonitors = true := by rw [X.admits.platform]
  have hfin : e.platform.finalization = false := by rw [X.admits.platform]
  have hpl : e.platform.magicAccessors = ({} : Platform).magicAccessors := by rw [X.admits.platform]
  have a : ∀ x, x ∈ Bundle.messageArmAtoms cls names → x.holds args s none s [] = true := fun x hx => h x hx
  obtain ⟨T, Z0, L, -, Y⟩ := ThrowableC.of_atoms (args := args) howns hfin hpl (fun x hx => h x (by simp [Bundle.messageArmAtoms, hx]))
  obtain ⟨Z, M, LZ, LM, hnZ⟩ := Init0T.ofS_atoms (args := args) hpl L Y (fun x hx => h x (by simp [Bundle.messageArmAtoms, hx]))
  obtain ⟨P1, Ps, hlen, L1, hL, hP1m, hlink1, hlink⟩ := Bundle.chainS (args := args) hpl hnZ names cls hcls hnames (fun x hx => h x (by simp [Bundle.messageArmAtoms, hx]))
  obtain ⟨Zs, LZs, hn4, hfitv, hfitc⟩ := StringT.of_atoms (args := args) (fun x hx => h x (by simp [Bundle.messageArmAtoms, hx]))
  have hfound : s.vm.findClass cls = some P1.m.cls := findClass_of_methodNamed hP1m
  obtain ⟨c1, kX, hc1, hk, hord, -, -, hn6⟩ := Cond.instantiable_spec (a (.instantiable cls 6) (by simp [Bundle.messageArmAtoms]))
  cases Option.some.inj (hc1.symm.trans hfound)
  have hinit := Cond.initialized_spec hfound hk (a (.initialized cls) (by simp [Bundle.messageArmAtoms]))
  have hctor : kX.findMethod "<init>" "(Ljava/lang/String;)V" = some P1.m.idx := findMethod_of_methodNamed hP1m hk
  have hsel0 : selectMethod e.platform s.vm P1.m.cls T.fill0 = .method T.fill0 := by
    obtain ⟨c2, r2, m2, q1, q2, q3, q4, -⟩ := Cond.selects_spec (a (.selects cls Bundle.tFill0 Bundle.tFill0) (by simp [Bundle.messageArmAtoms]))
    cases Option.some.inj (q1.symm.trans hfound)
    cases Option.some.inj (q2.symm.trans (State.methodFound?_of_named Y.fill0 (by decide)))
    cases Option.some.inj (q3.symm.trans Y.fill0)
    rw [Launch.admits_selectMethod X.admits]; exact q4
  have hselF : selectMethod e.platform s.vm P1.m.cls T.fill = .method T.fill := by
    obtain ⟨c2, r2, m2, q1, q2, q3, q4, -⟩ := Cond.selects_spec (a (.selects cls Bundle.tFill Bundle.tFill) (by simp [Bundle.messageArmAtoms]))
    cases Option.some.inj (q1.symm.trans hfound)
    cases Option.some.inj (q2.symm.trans (State.methodFound?_of_named Y.fill (by decide)))
    cases Option.some.inj (q3.symm.trans Y.fill)
    rw [Launch.admits_selectMethod X.admits]; exact q4
  obtain ⟨cellS0, hcS0, hiss⟩ := Y.statics
  obtain ⟨u0, hu0⟩ := Cond.staticRefV Y.unassigned L.unassignedStatic L.statics hcS0 hiss (a (.isRef (.static Bundle.tN "UNASSIGNED_STACK" Bundle.steD)) (by simp [Bundle.messageArmAtoms]))
  obtain ⟨sen, hsen⟩ := Cond.staticRefV Y.sentinel L.sentinelStatic L.statics hcS0 hiss (a (.isRef (.static Bundle.tN "SUPPRESSED_SENTINEL" Bundle.listD)) (by simp [Bundle.messageArmAtoms]))
  obtain ⟨ci198, i198, fB, hk198, hg198, ha198, hsB, -, hnB, htB, hffB⟩ := Cond.ownField (t := .object "java/lang/Object") Y.found L.cls (by decide +kernel) (a (.fieldLink Bundle.tN 198 Bundle.tN "backtrace" "Ljava/lang/Object;") (by simp [Bundle.messageArmAtoms])) (a (.lays Bundle.tN Bundle.tN "backtrace" "Ljava/lang/Object;") (by simp [Bundle.messageArmAtoms])) e.platform hpl
  obtain ⟨cellS, hcS', heS, -, hkeep⟩ := X.same.2.2.2.2.2 T.aS cellS0 hcS0
  have hcellS : W.heap[T.aS]? = some cellS := hcS'
  have hout' : ∀ i, (⟨T.aS, i⟩ : Loc) ∉ locs := fun i hmem => by
    have := hlocs _ hmem cellS0 hcS0
    rw [hiss] at this; cases this
  have hknownS : cellS.vm ≠ .unknown := by
    rw [heS]; intro hu
    rw [show cellS0.vm = .unknown from hu] at hiss
    cases hiss
  have hvU : cellS.slots[T.fUnassigned.slot]? = some u0.v := by rw [hkeep _ (hout' _)]; exact hu0
  have hvSen : cellS.slots[T.fSentinel.slot]? = some sen.v := by rw [hkeep _ (hout' _)]; exact hsen
  obtain ⟨iM, hffM⟩ := Y.msg
  obtain ⟨tyC, dC, hdC, hdnC⟩ := Cond.laysAt hfound hk Y.cause (a (.lays cls Bundle.tN "cause" "Ljava/lang/Throwable;") (by simp [Bundle.messageArmAtoms]))
  obtain ⟨tyS, dS, hdS, hdnS⟩ := Cond.laysAt hfound hk Y.stack (a (.lays cls Bundle.tN "stackTrace" Bundle.steD) (by simp [Bundle.messageArmAtoms]))
  obtain ⟨tyP, dP, hdP, hdnP⟩ := Cond.laysAt hfound hk Y.supp (a (.lays cls Bundle.tN "suppressedExceptions" Bundle.listD) (by simp [Bundle.messageArmAtoms]))
  obtain ⟨tyM, dM, hdM, hdnM⟩ := Cond.laysAt hfound hk hffM (a (.lays cls Bundle.tN "detailMessage" "Ljava/lang/String;") (by simp [Bundle.messageArmAtoms]))
  obtain ⟨tyB, dB, hdB, hdnB⟩ := Cond.laysAt hfound hk hffB (a (.lays cls Bundle.tN "backtrace" "Ljava/lang/Object;") (by simp [Bundle.messageArmAtoms]))
  have bC := Cond.laysApart hdB hdC hdnB hdnC (by rw [hnB, Y.causeName]; decide)
  have bS := Cond.laysApart hdB hdS hdnB hdnS (by rw [hnB, Y.stackName]; decide)
  have bP := Cond.laysApart hdB hdP hdnB hdnP (by rw [hnB, Y.suppName]; decide)
  have hbk : ((preparedCellV T.toThrowableT (freshCell P1.m.cls kX) (W.heap.size + 2) u0 sen).withEntry W.cur).slots[fB.slot]? = some .null := by
    have := fresh_default (c := P1.m.cls) tyB
    rw [htB] at this
    simpa [preparedCellV, Cell.setSlot, Cell.withEntry, Array.getElem?_setIfInBounds, bC, bS, bP, bC.symm, bS.symm, bP.symm, defaultValue] using this
  have tkC := Takes.of_laid (v := .ref (W.heap.size + 2)) hk hord tyC (by rw [Y.causeType]; rfl)
  have tkS := Takes.of_laid (v := u0.v) hk hord tyS (by rw [Y.stackType]; exact fits_refV_array _ u0)
  have tkP := Takes.of_laid (v := sen.v) hk hord tyP (by rw [Y.suppType]; exact fits_refV_object _ sen)
  have tkM := Takes.of_laid (v := .ref (W.heap.size + 1)) hk hord tyM (by rw [Y.msgType]; rfl)
  have hskip : SkipFacts T e.platform s (fun u => u) u0 ((preparedCellV T.toThrowableT (freshCell P1.m.cls kX) (W.heap.size + 2) u0 sen).withEntry W.cur) := ⟨{ ci198 := ci198, i198 := i198, fBack := fB }, ⟨hk198, hg198, ha198, hsB⟩, hbk, fun _ _ => rfl⟩
  have h0 : At W g.method c below := by rw [hg]; exact X.here
  obtain ⟨hbeyond, hfreeW⟩ := X.vmMayThrow hsize (.throwNew cls (some text) none) (fun f hf => by cases hf) rfl hRlocals
  have hfr' : W.frames.length + Ps.length + 4 < (e.platform.stackLimits W.me).1 := by have := X.framesAbove hRframes; omega
  have hwd' : (stackUse (.java g :: W.frames.tail)).2 + 13 * Ps.length + 55 ≤ (e.platform.stackLimits W.me).2 := by have := X.stackAbove hsize (K := 13 * Ps.length + 55) (by omega); omega
  have hslots : W.slotsUsed + (stringBytes (stringToUtf16 text)).size + Zs.kS.instanceTypes.size + kX.instanceTypes.size ≤ e.platform.maxSlots := by
    have := X.slotsAbove hRslots
    rw [hn4, hn6]
    omega
  obtain ⟨vm', hW', st⟩ := Steps.vmThrowsMessageColdByV p (s₀ := s) (S := W) (g := g) h0 hexec T L Z LZ M LM X.warmed (t := W.cur) rfl Zs LZs P1 L1 Ps hL hlink1 hlink hsoe hoom hfound hk hinit hord hctor
    (Launch.admits_hotImplicitExceptions X.admits) hbeyond hfreeW htext hlimit hheap (X.cellsAbove hRcells) hslots (hfitv _) (hfitc _)
    (Nn := fun u => u) heapOnly_id (fun _ _ => rfl) (fun _ => rfl) (fun u x y => setCell_twice _ _ _ _) (fun _ => Nat.le_refl _) (cN := ((preparedCellV T.toThrowableT (freshCell P1.m.cls kX) (W.heap.size + 2) u0 sen).withEntry W.cur))
    hsel0 hcellS hknownS hvU tkS (fun _ hu => hu) (fun _ hu => hu) rfl rfl rfl (by simp [preparedCellV, Cell.setSlot, Cell.withEntry]) hskip (fun _ _ hA hW _ hroom _ hrest => L.nativeOff p htr hA hW hroom hrest) hselF hvSen tkC tkP tkM Y.objLocals rfl hfr' hwd'
  rw [plainBareV_eq T.toThrowableT (W.heap.size + 2) u0 sen (.ref (W.heap.size + 1)) W.cur rfl rfl] at st
  obtain ⟨-, -, w3, w4, -, -, -⟩ := withThrown_facts e.platform W Zs text P1.m.cls kX
  have X3 := ((X.pushed (bytesOf Zs.cB (stringToUtf16 text))).pushed (stringAt Zs.cS Zs.kS Zs.fv Zs.fc (stringToUtf16 text) W.heap.size)).pushed (freshCell P1.m.cls kX)
  rw [← withString_eq] at X3
  have X4 := X3.noted hW'
  have ha : (W.heap.size + 2) < ((withThrown W Zs text P1.m.cls kX).setVm vm').heap.size := by show _ < (withThrown W Zs text P1.m.cls kX).heap.size; rw [w3]; omega
  have hcell : ((withThrown W Zs text P1.m.cls kX).setVm vm').heap[(W.heap.size + 2)]? = some (freshCell P1.m.cls kX) := w4
  have X5 := ((((X4.stored hcell T.fCause.slot (.ref (W.heap.size + 2))).storedAgain ha T.fStack.slot u0.v).storedAgain ha T.fSupp.slot sen.v).storedAgain ha T.fStack.slot u0.v).storedAgain ha T.fMsg.slot (.ref (W.heap.size + 1))
  obtain ⟨g₁, hfrM⟩ := X5.frames_eq
  have hU : ((((withThrown W Zs text P1.m.cls kX).setVm vm').setCell (W.heap.size + 2) (plainBareV T.toThrowableT (freshCell P1.m.cls kX) (W.heap.size + 2) u0 sen (.ref (W.heap.size + 1)))).setTop g).pushFrame (.throwing (W.heap.size + 2)) = (((withThrown W Zs text P1.m.cls kX).setVm vm').setCell (W.heap.size + 2) (plainBareV T.toThrowableT (freshCell P1.m.cls kX) (W.heap.size + 2) u0 sen (.ref (W.heap.size + 1)))).setFrames (.throwing (W.heap.size + 2) :: .java g :: below) := by
    rw [State.pushFrame, State.frames_setTop _ hfrM, State.setTop_of_frames _ hfrM, State.setFrames_setFrames]
  have b1 : (bytesOf Zs.cB (stringToUtf16 text)).slots.size = (stringBytes (stringToUtf16 text)).size := by
    rw [(Cell.writeAll_facts _ _).2.2]; simp [bytes0]
  have b2 : (stringAt Zs.cS Zs.kS Zs.fv Zs.fc (stringToUtf16 text) W.heap.size).slots.size = 4 := by simp [string0, Cell.setSlot, hn4]
  have b3 : (freshCell P1.m.cls kX).slots.size = 6 := by simp [hn6]
  rw [b1, b2, b3] at X5
  have e9 : slots + (stringBytes (stringToUtf16 text)).size + 4 + 6 = slots + ((stringBytes (stringToUtf16 text)).size + 4 + 6) := by omega
  rw [e9] at X5
  simp only [List.append_assoc, List.cons_append, List.nil_append] at X5
  refine ⟨((withThrown W Zs text P1.m.cls kX).setVm vm').setCell (W.heap.size + 2) (plainBareV T.toThrowableT (freshCell P1.m.cls kX) (W.heap.size + 2) u0 sen (.ref (W.heap.size + 1))), W.heap.size + 2, _, fun target ht => st _ (by rw [X.tail, ← hU]; exact ht),
    X5.forget (fun y hy => ?_), heapAt_setCell_self _ ha, hfound, rfl⟩
  simp only [List.mem_cons, List.not_mem_nil, or_false] at hy
  have hge : s.heap.size ≤ W.heap.size := X.same.2.1
  rcases hy with rfl | rfl | rfl | rfl | rfl <;> exact Nat.le_trans hge (Nat.le_add_right _ 2)
set_option maxHeartbeats 1000000 in
/-- the machine throws NullPointerException, no traces kept: from its note over the frame g to 'throwing' over the same frame (follows the proof of Stand.vmThrowsNpe, Shelf42/KT2.lean; throwsNpeColdBareVAt, Shelf42/NT91.lean, called) -/
theorem vx_npeAt {p : Program} {l : Launch} {e : Env} {R : Room} {s : State} {m₀ : MethodId} {args : Array Value} {below : List Frame} {meth : Method} {c : Code} {W : State} {locs : List Loc} {cells slots : Nat}
    (X : Stand p l e R s m₀ args below meth c W locs cells slots) (hexec : p.tables.exec = Jvm.exec) (htr : e.platform.stackTraces = false) {n : Nat}
    (h : ∀ a ∈ Bundle.npeArmAtoms n, a.before args s = true)
    (hlocs : ∀ x ∈ locs, ∀ cell, s.heap[x.base]? = some cell → cell.vm.isStatics = false)
    {g : JFrame} (hg : g.method = m₀) (hsize : g.locals.size = c.maxLocals)
    (hRframes : 7 < R.frames) (hRlocals : 2 * g.monitorRoom + (g.stack.map fun v => v.category).sum + 10240 ≤ R.locals)
    (hRcells : cells + 1 ≤ R.cells) (hRslots : slots + n ≤ R.slots) (hlocks : meth.locks = false) :
    ∃ (S : State) (q : Addr) (ce : Cell), (∀ target, Steps p.tables e below ((S.setTop g).pushFrame (.throwing q)) target → Steps p.tables e below ((W.setTop g).pushFrame (.throwNew "java/lang/NullPointerException" none none)) target) ∧
      Stand p l e R s m₀ args below meth c S locs (cells + 1) (slots + n) ∧ S.heap[q]? = some ce ∧ s.vm.findClass "java/lang/NullPointerException" = some ce.cls ∧ ce.vm = .none := by
  have howns : e.platform.frameOwnsMonitors = true := by rw [X.admits.platform]
  have hfin : e.platform.finalization = false := by rw [X.admits.platform]
  have hpl : e.platform.magicAccessors = ({} : Platform).magicAccessors := by rw [X.admits.platform]
  have hpl2 : e.platform.arrayCloneIsPublic = true := by rw [X.admits.platform]
  have a' : ∀ x, x ∈ Bundle.npeArmAtoms n → x.holds args s none s [] = true := fun x hx => h x hx
  obtain ⟨T, Z, L, LZ, Y⟩ := ThrowableC.of_atoms (args := args) howns hfin hpl (fun x hx => h x (by simp [Bundle.npeArmAtoms, hx]))
  obtain ⟨N, LN, hcN, hnNF, hordN, hffS⟩ := NpeC.of_atoms (args := args) hpl hpl2 L Y (fun x hx => h x (by simp [Bundle.npeArmAtoms, hx]))
  obtain ⟨P1, L1, hP1m, hP1s⟩ := PassC.of_atoms (args := args) (s := s) hpl (X := Bundle.nN) (Y := Bundle.rN) (by decide) (by decide) LibCode.NullPointerException.Init0.at_0 LibCode.NullPointerException.Init0.at_1 LibCode.NullPointerException.Init0.at_4 (fun x hx => h x (by simp [Bundle.npeArmAtoms, hx]))
  obtain ⟨PR, LR, hPRm, hPRs⟩ := PassC.of_atoms (args := args) (s := s) hpl (X := Bundle.rN) (Y := Bundle.eN) (by decide) (by decide) LibCode.RuntimeException.Init0.at_0 LibCode.RuntimeException.Init0.at_1 LibCode.RuntimeException.Init0.at_4 (fun x hx => h x (by simp [Bundle.npeArmAtoms, hx]))
  obtain ⟨PE, LEx, hPEm, hPEs⟩ := PassC.of_atoms (args := args) (s := s) hpl (X := Bundle.eN) (Y := Bundle.tN) (by decide) (by decide) LibCode.Exception.Init0.at_0 LibCode.Exception.Init0.at_1 LibCode.Exception.Init0.at_4 (fun x hx => h x (by simp [Bundle.npeArmAtoms, hx]))
  have hfound : s.vm.findClass Bundle.nN = some P1.m.cls := findClass_of_methodNamed hP1m
  have ecls : N.cN = P1.m.cls := Option.some.inj (hcN.symm.trans hfound)
  have hk : s.vm.classes[P1.m.cls]? = some N.kN := by rw [← ecls]; exact LN.cls
  have hinit := Cond.initialized_spec hfound hk (a' (.initialized Bundle.nN) (by simp [Bundle.npeArmAtoms]))
  have hctor : N.kN.findMethod "<init>" "()V" = some P1.m.idx := findMethod_of_methodNamed hP1m hk
  obtain ⟨c1, k1, hc1, hk1, -, -, -, hn⟩ := Cond.instantiable_spec (a' (.instantiable Bundle.nN n) (by simp [Bundle.npeArmAtoms]))
  cases Option.some.inj (hc1.symm.trans hfound)
  cases Option.some.inj (hk1.symm.trans hk)
  have hfsz : (freshCell P1.m.cls N.kN).slots.size = n := by simp [hn]
  have hlink1 : P1.sup = PR.m := Option.some.inj (hP1s.symm.trans hPRm)
  have hlinkR : PR.sup = PE.m := Option.some.inj (hPRs.symm.trans hPEm)
  have hlinkE : PE.sup = Z.m T.toThrowableT := Option.some.inj (hPEs.symm.trans Y.init0)
  have hLs : ∀ P, P ∈ [PR, PE] → P.Links0 e.platform s := fun P hP => by
    simp only [List.mem_cons, List.not_mem_nil, or_false] at hP
    rcases hP with rfl | rfl
    · exact LR
    · exact LEx
  have hsel0 : selectMethod e.platform s.vm P1.m.cls T.fill0 = .method T.fill0 := by
    obtain ⟨c2, r2, m2, q1, q2, q3, q4, -⟩ := Cond.selects_spec (a' (.selects Bundle.nN Bundle.tFill0 Bundle.tFill0) (by simp [Bundle.npeArmAtoms]))
    cases Option.some.inj (q1.symm.trans hfound)
    cases Option.some.inj (q2.symm.trans (State.methodFound?_of_named Y.fill0 (by decide)))
    cases Option.some.inj (q3.symm.trans Y.fill0)
    rw [Launch.admits_selectMethod X.admits]; exact q4
  have hselF : selectMethod e.platform s.vm P1.m.cls T.fill = .method N.fill := by
    obtain ⟨c2, r2, m2, q1, q2, q3, q4, -⟩ := Cond.selects_spec (a' (.selects Bundle.nN Bundle.tFill Bundle.nFill) (by simp [Bundle.npeArmAtoms]))
    cases Option.some.inj (q1.symm.trans hfound)
    cases Option.some.inj (q2.symm.trans (State.methodFound?_of_named Y.fill (by decide)))
    cases Option.some.inj (q3.symm.trans hnNF)
    rw [Launch.admits_selectMethod X.admits]; exact q4
  obtain ⟨cellS0, hcS0, hiss⟩ := Y.statics
  obtain ⟨u0, hu0⟩ := Cond.staticRefV Y.unassigned L.unassignedStatic L.statics hcS0 hiss (a' (.isRef (.static Bundle.tN "UNASSIGNED_STACK" Bundle.steD)) (by simp [Bundle.npeArmAtoms]))
  obtain ⟨sen, hsen⟩ := Cond.staticRefV Y.sentinel L.sentinelStatic L.statics hcS0 hiss (a' (.isRef (.static Bundle.tN "SUPPRESSED_SENTINEL" Bundle.listD)) (by simp [Bundle.npeArmAtoms]))
  obtain ⟨ci198, i198, fB, hk198, hg198, ha198, hsB, -, hnB, htB, hffB⟩ := Cond.ownField (t := .object "java/lang/Object") Y.found L.cls (by decide +kernel) (a' (.fieldLink Bundle.tN 198 Bundle.tN "backtrace" Bundle.objD) (by simp [Bundle.npeArmAtoms])) (a' (.lays Bundle.tN Bundle.tN "backtrace" Bundle.objD) (by simp [Bundle.npeArmAtoms])) e.platform hpl
  obtain ⟨cellS, hcS', heS, -, hkeep⟩ := X.same.2.2.2.2.2 T.aS cellS0 hcS0
  have hcellS : W.heap[T.aS]? = some cellS := hcS'
  have hout' : ∀ i, (⟨T.aS, i⟩ : Loc) ∉ locs := fun i hmem => by
    have := hlocs _ hmem cellS0 hcS0
    rw [hiss] at this; cases this
  have hknownS : cellS.vm ≠ .unknown := by
    rw [heS]; intro hu
    rw [show cellS0.vm = .unknown from hu] at hiss
    cases hiss
  have hvU : cellS.slots[T.fUnassigned.slot]? = some u0.v := by rw [hkeep _ (hout' _)]; exact hu0
  have hvSen : cellS.slots[T.fSentinel.slot]? = some sen.v := by rw [hkeep _ (hout' _)]; exact hsen
  obtain ⟨tyC, dC, hdC, hdnC⟩ := Cond.laysAt hfound hk Y.cause (a' (.lays Bundle.nN Bundle.tN "cause" "Ljava/lang/Throwable;") (by simp [Bundle.npeArmAtoms]))
  obtain ⟨tyS, dS, hdS, hdnS⟩ := Cond.laysAt hfound hk Y.stack (a' (.lays Bundle.nN Bundle.tN "stackTrace" Bundle.steD) (by simp [Bundle.npeArmAtoms]))
  obtain ⟨tyP, dP, hdP, hdnP⟩ := Cond.laysAt hfound hk Y.supp (a' (.lays Bundle.nN Bundle.tN "suppressedExceptions" Bundle.listD) (by simp [Bundle.npeArmAtoms]))
  obtain ⟨tyX, dX, hdX, hdnX⟩ := Cond.laysAt hfound hk hffS (a' (.lays Bundle.nN Bundle.nN "extendedMessageState" "I") (by simp [Bundle.npeArmAtoms, Bundle.npeAtoms]))
  obtain ⟨hnX, htX⟩ := State.fieldFound?_type hffS (t := .int) (by decide +kernel)
  have xC := Cond.laysApart hdC hdX hdnC hdnX (by rw [hnX, Y.causeName]; decide)
  have xS := Cond.laysApart hdS hdX hdnS hdnX (by rw [hnX, Y.stackName]; decide)
  have xP := Cond.laysApart hdP hdX hdnP hdnX (by rw [hnX, Y.suppName]; decide)
  have hv0 : (freshCell P1.m.cls N.kN).slots[N.fState.slot]? = some (.int 0) := by
    have := fresh_default (c := P1.m.cls) tyX
    rw [htX] at this; exact this
  obtain ⟨tyB, dB, hdB, hdnB⟩ := Cond.laysAt hfound hk hffB (a' (.lays Bundle.nN Bundle.tN "backtrace" Bundle.objD) (by simp [Bundle.npeArmAtoms]))
  have bC := Cond.laysApart hdB hdC hdnB hdnC (by rw [hnB, Y.causeName]; decide)
  have bS := Cond.laysApart hdB hdS hdnB hdnS (by rw [hnB, Y.stackName]; decide)
  have bP := Cond.laysApart hdB hdP hdnB hdnP (by rw [hnB, Y.suppName]; decide)
  have bX := Cond.laysApart hdB hdX hdnB hdnX (by rw [hnB, hnX]; decide)
  have hbk : ((npeCell N.toNpeT (preparedCellV T.toThrowableT (freshCell P1.m.cls N.kN) W.heap.size u0 sen) W.cur).withEntry W.cur).slots[fB.slot]? = some .null := by
    have := fresh_default (c := P1.m.cls) tyB
    rw [htB] at this
    simpa [npeCell, preparedCellV, Cell.setSlot, Cell.withEntry, Array.getElem?_setIfInBounds, bC, bS, bP, bX, bC.symm, bS.symm, bP.symm, bX.symm, defaultValue] using this
  have tkC := Takes.of_laid (v := .ref W.heap.size) hk hordN tyC (by rw [Y.causeType]; rfl)
  have tkS := Takes.of_laid (v := u0.v) hk hordN tyS (by rw [Y.stackType]; exact fits_refV_array _ u0)
  have tkP := Takes.of_laid (v := sen.v) hk hordN tyP (by rw [Y.suppType]; exact fits_refV_object _ sen)
  have tkX := Takes.of_laid (v := .int 1) hk hordN tyX (by rw [htX]; rfl)
  have hskip : SkipFacts T e.platform s (fun u => u) u0 ((npeCell N.toNpeT (preparedCellV T.toThrowableT (freshCell P1.m.cls N.kN) W.heap.size u0 sen) W.cur).withEntry W.cur) := ⟨{ ci198 := ci198, i198 := i198, fBack := fB }, ⟨hk198, hg198, ha198, hsB⟩, hbk, fun _ _ => rfl⟩
  obtain ⟨vm', X3, st, -⟩ := X.throwsNpeColdBareVAt hexec hg hsize T L Z LZ N LN P1 L1 [PR, PE] hLs hlink1 ⟨hlinkR, hlinkE, trivial⟩ hfound hk hinit hordN hctor hsel0 hselF hcellS hknownS hvU hvSen
    hv0 xC xS xP tkC tkS tkP tkX Y.objLocals hskip (fun _ _ hA hW _ hroom _ hrest => L.nativeOff p htr hA hW hroom hrest) (by simpa using hRframes) hRlocals (by simp) hRcells (by rw [hn]; exact hRslots)
  have hlt : W.heap.size < ((W.pushCell (freshCell P1.m.cls N.kN)).setVm vm').heap.size := by
    show W.heap.size < (W.pushCell (freshCell P1.m.cls N.kN)).heap.size
    rw [State.heap_size_pushCell]; omega
  rw [hfsz] at X3
  obtain ⟨g₁, hfrM⟩ := X3.frames_eq
  have hU : ((((W.pushCell (freshCell P1.m.cls N.kN)).setVm vm').setCell W.heap.size (npeBareV T.toThrowableT N.toNpeT (freshCell P1.m.cls N.kN) W.heap.size u0 sen)).setTop g).pushFrame (.throwing W.heap.size) = (((W.pushCell (freshCell P1.m.cls N.kN)).setVm vm').setCell W.heap.size (npeBareV T.toThrowableT N.toNpeT (freshCell P1.m.cls N.kN) W.heap.size u0 sen)).setFrames (.throwing W.heap.size :: .java g :: below) := by
    rw [State.pushFrame, State.frames_setTop _ hfrM, State.setTop_of_frames _ hfrM, State.setFrames_setFrames]
  refine ⟨_, W.heap.size, _, fun target ht => st.trans (by rw [← hU]; exact ht), X3.forget (fun y hy => ?_), heapAt_setCell_self _ hlt, hfound, rfl⟩
  simp only [List.mem_cons, List.not_mem_nil, or_false] at hy
  have hge : s.heap.size ≤ W.heap.size := X.same.2.1
  rcases hy with rfl | rfl | rfl | rfl | rfl <;> exact hge
/-- the words of a machine's NullPointerException, but the four that speak of the heap -/
def vx_atN (n : Nat) : List Cond := (Bundle.npeArmAtoms n).filter vx_no
/-- the words of a machine's throw with a message, but the four that speak of the heap -/
def vx_atM (X : String) (names : List String) : List Cond := (Bundle.messageArmAtoms X names).filter vx_no
section
variable {p : Program} {l : Launch} {e : Env} {R : Room} {s : State} {m : MethodId} {args : Array Value} {below : List Frame} {meth : Method} {c : Code} {H : Heap} {locs : List Loc} {cells slots : Nat}
/-- a frame seen from a rebased start, seen from the first start again -/
theorem vx_back9 {T S : State} {R' : Room} {k n : Nat} (X : Stand p l e R s m args below meth c T locs cells slots) (Y : Stand p l e R' ((T.setVm s.vm).setFrames (.invoking m args :: below)) m args below meth c T [] 0 0) (Z : Stand p l e R' ((T.setVm s.vm).setFrames (.invoking m args :: below)) m args below meth c S [] k n) :
    Stand p l e R s m args below meth c S locs (cells + k) (slots + n) := by
  have hW0 : s.WarmedH ((T.setVm s.vm).setFrames (.invoking m args :: below)).vm := State.WarmedH.refl s
  refine { admits := X.admits, cas := X.cas, clock := X.clock, frames := X.frames, room := X.room, hears := X.hears, method := X.method, code := X.code, here := Z.here, tail := Z.tail, warmed := State.WarmedH.trans hW0 Z.warmed, limits := Z.limits.trans (Y.limits.symm.trans X.limits), bytes := Z.bytes.trans (Y.bytes.symm.trans X.bytes), same := ?_ }
  obtain ⟨e1, e2⟩ := Z.same
  rw [State.setFrames_setFrames] at e1
  have h2 : (T.setVm s.vm).sameButNew (S.setVm s.vm) [] k n := ⟨e1, e2⟩
  have h3 := X.same.trans h2
  rw [List.append_nil] at h3
  exact h3
/-- from the machine's note that E is thrown here with this text -/
def vx_Note (p : Program) (l : Launch) (e : Env) (R : Room) (s : State) (m : MethodId) (args : Array Value) (below : List Frame) (meth : Method) (c : Code) (H : Heap) (locs : List Loc) (cells slots : Nat) (Q : State → Prop) (g : JFrame) (E text : String) : Prop :=
  ∀ T : State, T.heap = H → Stand p l e R s m args below meth c T locs cells slots → ∃ t, Steps p.tables e below ((T.setTop g).pushFrame (.throwNew E (some text) none)) t ∧ Q t
theorem vx_vm {pc : Nat} {ls : Array Slot} {rest : List Value} {Q : State → Prop} (hexec : p.tables.exec = Jvm.exec) (hl : l.stackTraces = false) {cls text : String} {names : List String} {nb : Nat} {A : Nat → Prop}
    (hcls : Bundle.fit cls = true) (hnames : ∀ n ∈ names, Bundle.fit n = true) (hsoe : (cls == "java/lang/StackOverflowError") = false) (hoom : (cls == "java/lang/OutOfMemoryError") = false)
    (hat : ∀ w ∈ vx_atM cls names, w.before args s = true) (hgood : ∀ w ∈ vx_atM cls names, vx_ot w = true)
    (hU : vx_Zq Bundle.tN "UNASSIGNED_STACK" Bundle.steD A s s.heap) (hN : vx_Zq Bundle.tN "SUPPRESSED_SENTINEL" Bundle.listD A s s.heap) (hS : va_S A s.heap H locs) (hsize : ls.size = c.maxLocals)
    (htext : (text == notModelled) = false) (hnb : (stringBytes (stringToUtf16 text)).size ≤ nb) (hnb1 : nb ≤ 1000)
    (hRframes : names.length + 4 < R.frames) (hRlocals : (rest.map fun v => v.category).sum + 10240 ≤ R.locals) (hshort : 13 * names.length + 55 ≤ 10240) (hRcells : cells + 3 ≤ R.cells) (hRslots : slots + (nb + 10) ≤ R.slots) (hlocks : meth.locks = false)
    (k : ∀ (H1 : Heap) (q9 : Addr) (ce : Cell), H.size ≤ H1.size → (∀ q : Nat, q < H.size → H1[q]? = H[q]?) → va_S A s.heap H1 locs → H1[q9]? = some ce → ce.vm = .none → s.vm.findClass cls = some ce.cls → vx_W p l e R s m args below meth c H1 locs (cells + 3) (slots + (nb + 10)) Q (F0 m pc ls rest) q9) :
    vx_Note p l e R s m args below meth c H locs cells slots Q (F0 m pc ls rest) cls text := by
  intro T hT X
  have htr : e.platform.stackTraces = false := (show e.platform.stackTraces = l.stackTraces by rw [X.admits.platform]).trans hl
  have Y := vx_rebase X (R' := { frames := R.frames, locals := R.locals, cells := 3, slots := nb + 10 }) (Nat.le_refl _) (Nat.le_refl _) hRcells hRslots
  have hhp : ((T.setVm s.vm).setFrames (.invoking m args :: below)).heap = H := hT
  have hW0 : s.WarmedH ((T.setVm s.vm).setFrames (.invoking m args :: below)).vm := State.WarmedH.refl s
  have hat' : ∀ w ∈ vx_atM cls names, w.before args ((T.setVm s.vm).setFrames (.invoking m args :: below)) = true := fun w hw => vx_ot_at hW0 rfl (hgood w hw) (hat w hw)
  have hU' : vx_Zq Bundle.tN "UNASSIGNED_STACK" Bundle.steD A ((T.setVm s.vm).setFrames (.invoking m args :: below)) ((T.setVm s.vm).setFrames (.invoking m args :: below)).heap := by rw [hhp]; exact vx_Zq.moved hW0.alike (hU.kept hS.2.1)
  have hN' : vx_Zq Bundle.tN "SUPPRESSED_SENTINEL" Bundle.listD A ((T.setVm s.vm).setFrames (.invoking m args :: below)) ((T.setVm s.vm).setFrames (.invoking m args :: below)).heap := by rw [hhp]; exact vx_Zq.moved hW0.alike (hN.kept hS.2.1)
  obtain ⟨S, q, ce, st, Z, hce, hcl', hv⟩ := vx_vmAt Y hexec htr (cls := cls) (names := names) (text := text) hcls hnames hsoe hoom (vx_own hat' (vx_isRefq hU'.1) (vx_isRefq hN'.1) hU'.2.word hN'.2.word) (fun x hx => nomatch hx) htext
    (by rw [Launch.admits_arrayLengthLimit X.admits]; omega) (by rw [Launch.admits_maxHeapBytes X.admits]; simp only [componentBytes]; omega)
    (g := F0 m pc ls rest) rfl hsize hRframes (by show 2 * 0 + (rest.map fun v => v.category).sum + 10240 ≤ R.locals; omega) hshort (by show 0 + 3 ≤ 3; omega) (by show 0 + (_ + 4 + 6) ≤ nb + 10; omega) hlocks
  obtain ⟨f1, f2⟩ := vx_frame Z.same
  have f1' : H.size ≤ S.heap.size := by rw [← hT]; exact f1
  have f2' : ∀ q : Nat, q < H.size → S.heap[q]? = H[q]? := fun q hq => by
    rw [← hT]
    exact f2 q (by rw [← hT] at hq; exact hq) (fun z hz => nomatch hz)
  have X5 := vx_back9 X Y Z
  have X6 : Stand p l e R s m args below meth c S locs (cells + 3) (slots + (nb + 10)) := { X5 with same := X5.same.mono (by omega) (by omega) }
  obtain ⟨t, a1, b1⟩ := k S.heap q ce f1' f2' ⟨Nat.le_trans hS.1 f1', fun q h1 h2 => (f2' q (Nat.lt_of_lt_of_le h1 hS.1)).trans (hS.2.1 q h1 h2), hS.2.2⟩ hce hv hcl' S rfl X6
  exact ⟨t, st t a1, b1⟩
/-- from the machine's note that NullPointerException is thrown here -/
def vx_NoteN (p : Program) (l : Launch) (e : Env) (R : Room) (s : State) (m : MethodId) (args : Array Value) (below : List Frame) (meth : Method) (c : Code) (H : Heap) (locs : List Loc) (cells slots : Nat) (Q : State → Prop) (g : JFrame) : Prop :=
  ∀ T : State, T.heap = H → Stand p l e R s m args below meth c T locs cells slots → ∃ t, Steps p.tables e below ((T.setTop g).pushFrame (.throwNew "java/lang/NullPointerException" none none)) t ∧ Q t
theorem vx_npe {pc : Nat} {ls : Array Slot} {rest : List Value} {Q : State → Prop} (hexec : p.tables.exec = Jvm.exec) (hl : l.stackTraces = false) {nb : Nat} {A : Nat → Prop}
    (hat : ∀ w ∈ vx_atN nb, w.before args s = true) (hgood : ∀ w ∈ vx_atN nb, vx_ot w = true)
    (hU : vx_Zq Bundle.tN "UNASSIGNED_STACK" Bundle.steD A s s.heap) (hN : vx_Zq Bundle.tN "SUPPRESSED_SENTINEL" Bundle.listD A s s.heap) (hS : va_S A s.heap H locs) (hsize : ls.size = c.maxLocals)
    (hRframes : 7 < R.frames) (hRlocals : (rest.map fun v => v.category).sum + 10240 ≤ R.locals) (hRcells : cells + 1 ≤ R.cells) (hRslots : slots + nb ≤ R.slots) (hlocks : meth.locks = false)
    (k : ∀ (H1 : Heap) (q9 : Addr) (ce : Cell), H.size ≤ H1.size → (∀ q : Nat, q < H.size → H1[q]? = H[q]?) → va_S A s.heap H1 locs → H1[q9]? = some ce → ce.vm = .none → s.vm.findClass "java/lang/NullPointerException" = some ce.cls → vx_W p l e R s m args below meth c H1 locs (cells + 1) (slots + nb) Q (F0 m pc ls rest) q9) :
    vx_NoteN p l e R s m args below meth c H locs cells slots Q (F0 m pc ls rest) := by
  intro T hT X
  have htr : e.platform.stackTraces = false := (show e.platform.stackTraces = l.stackTraces by rw [X.admits.platform]).trans hl
  have Y := vx_rebase X (R' := { frames := R.frames, locals := R.locals, cells := 1, slots := nb }) (Nat.le_refl _) (Nat.le_refl _) hRcells hRslots
  have hhp : ((T.setVm s.vm).setFrames (.invoking m args :: below)).heap = H := hT
  have hW0 : s.WarmedH ((T.setVm s.vm).setFrames (.invoking m args :: below)).vm := State.WarmedH.refl s
  have hat' : ∀ w ∈ vx_atN nb, w.before args ((T.setVm s.vm).setFrames (.invoking m args :: below)) = true := fun w hw => vx_ot_at hW0 rfl (hgood w hw) (hat w hw)
  have hU' : vx_Zq Bundle.tN "UNASSIGNED_STACK" Bundle.steD A ((T.setVm s.vm).setFrames (.invoking m args :: below)) ((T.setVm s.vm).setFrames (.invoking m args :: below)).heap := by rw [hhp]; exact vx_Zq.moved hW0.alike (hU.kept hS.2.1)
  have hN' : vx_Zq Bundle.tN "SUPPRESSED_SENTINEL" Bundle.listD A ((T.setVm s.vm).setFrames (.invoking m args :: below)) ((T.setVm s.vm).setFrames (.invoking m args :: below)).heap := by rw [hhp]; exact vx_Zq.moved hW0.alike (hN.kept hS.2.1)
  obtain ⟨S, q, ce, st, Z, hce, hcl', hv⟩ := vx_npeAt Y hexec htr (n := nb) (vx_own hat' (vx_isRefq hU'.1) (vx_isRefq hN'.1) hU'.2.word hN'.2.word) (fun x hx => nomatch hx)
    (g := F0 m pc ls rest) rfl hsize hRframes (by show 2 * 0 + (rest.map fun v => v.category).sum + 10240 ≤ R.locals; omega) (by show 0 + 1 ≤ 1; omega) (by show 0 + nb ≤ nb; omega) hlocks
  obtain ⟨f1, f2⟩ := vx_frame Z.same
  have f1' : H.size ≤ S.heap.size := by rw [← hT]; exact f1
  have f2' : ∀ q : Nat, q < H.size → S.heap[q]? = H[q]? := fun q hq => by
    rw [← hT]
    exact f2 q (by rw [← hT] at hq; exact hq) (fun z hz => nomatch hz)
  have X5 := vx_back9 X Y Z
  have X6 : Stand p l e R s m args below meth c S locs (cells + 1) (slots + nb) := { X5 with same := X5.same.mono (by omega) (by omega) }
  obtain ⟨t, a1, b1⟩ := k S.heap q ce f1' f2' ⟨Nat.le_trans hS.1 f1', fun q h1 h2 => (f2' q (Nat.lt_of_lt_of_le h1 hS.1)).trans (hS.2.1 q h1 h2), hS.2.2⟩ hce hv hcl' S rfl X6
  exact ⟨t, st t a1, b1⟩
variable {Q : State → Prop} {cc : ByteArray} {pc : Nat} {ls : Array Slot} {rest : List Value}
theorem vx_idivZ (hexec : p.tables.exec = Jvm.exec) (hb : c.code = cc) {a b : Int32} (h0 : b = 0) (d : decode cc pc = .ok (.idiv, 1)) (k : vx_Note p l e R s m args below meth c H locs cells slots Q (F0 m pc ls rest) "java/lang/ArithmeticException" "/ by zero") :
    W p l e R s m args below meth c H locs cells slots Q (F0 m pc ls (.int b :: .int a :: rest)) := by
  intro T hT X
  obtain ⟨t, st, q⟩ := k T hT X
  exact ⟨t, X.idivZero hexec (g := F0 m pc ls (.int b :: .int a :: rest)) rfl (a := a) (rest := rest) (by rw [h0]) (by rw [hb]; exact d) t st, q⟩
theorem vx_iremZ (hexec : p.tables.exec = Jvm.exec) (hb : c.code = cc) {a b : Int32} (h0 : b = 0) (d : decode cc pc = .ok (.irem, 1)) (k : vx_Note p l e R s m args below meth c H locs cells slots Q (F0 m pc ls rest) "java/lang/ArithmeticException" "/ by zero") :
    W p l e R s m args below meth c H locs cells slots Q (F0 m pc ls (.int b :: .int a :: rest)) := by
  intro T hT X
  obtain ⟨t, st, q⟩ := k T hT X
  exact ⟨t, X.iremZero hexec (g := F0 m pc ls (.int b :: .int a :: rest)) rfl (a := a) (rest := rest) (by rw [h0]) (by rw [hb]; exact d) t st, q⟩
theorem vx_ldivZ (hexec : p.tables.exec = Jvm.exec) (hb : c.code = cc) {a b : Int64} (h0 : b = 0) (d : decode cc pc = .ok (.ldiv, 1)) (k : vx_Note p l e R s m args below meth c H locs cells slots Q (F0 m pc ls rest) "java/lang/ArithmeticException" "/ by zero") :
    W p l e R s m args below meth c H locs cells slots Q (F0 m pc ls (.long b :: .long a :: rest)) := by
  intro T hT X
  obtain ⟨t, st, q⟩ := k T hT X
  exact ⟨t, X.ldivZero hexec (g := F0 m pc ls (.long b :: .long a :: rest)) rfl (a := a) (rest := rest) (by rw [h0]) (by rw [hb]; exact d) t st, q⟩
theorem vx_lremZ (hexec : p.tables.exec = Jvm.exec) (hb : c.code = cc) {a b : Int64} (h0 : b = 0) (d : decode cc pc = .ok (.lrem, 1)) (k : vx_Note p l e R s m args below meth c H locs cells slots Q (F0 m pc ls rest) "java/lang/ArithmeticException" "/ by zero") :
    W p l e R s m args below meth c H locs cells slots Q (F0 m pc ls (.long b :: .long a :: rest)) := by
  intro T hT X
  obtain ⟨t, st, q⟩ := k T hT X
  exact ⟨t, X.lremZero hexec (g := F0 m pc ls (.long b :: .long a :: rest)) rfl (a := a) (rest := rest) (by rw [h0]) (by rw [hb]; exact d) t st, q⟩
theorem vx_ialdZ {D : va_G} {cl : List vw_C} {ws : va_W} {tys : List (ClassId × FieldType)} {a : Nat} (hexec : p.tables.exec = Jvm.exec) (hb : c.code = cc) (hK : va_K D cl tys s) (hP : va_P D cl ws H) (q0 t0 : Nat) {cA : ClassId} {n : Nat} {f : Nat → Int32} (ha : ws[q0]? = some (a, .inl (cA, n, .inl f))) (ht : tys[t0]? = some (cA, .int)) {i : Int32} (hout : ¬ vp_in i n) (hdg : decode cc pc = .ok (.iaload, 1))
    (k : ∀ tx : String, tx = (toString "Index " ++ toString i ++ toString " out of bounds for length " ++ toString n : String) → vx_Note p l e R s m args below meth c H locs cells slots Q (F0 m pc ls rest) "java/lang/ArrayIndexOutOfBoundsException" tx) : W p l e R s m args below meth c H locs cells slots Q (F0 m pc ls (.int i :: .ref a :: rest)) := by
  intro T hT X
  obtain ⟨t, st, q⟩ := k _ rfl T hT X
  refine ⟨t, ?_, q⟩
  have h1 := X.ialoadOut hexec (by rw [hT]; exact hP q0 _ ha) ((hK.2 t0 _ ht).1 n (fun j => .int (f j))) (j := i) (by show (i < 0 ∨ (arrV _ _ _).slots.size ≤ _); rw [arrV_size]; exact Classical.byContradiction hout) (g := F0 m pc ls (.int i :: .ref a :: rest)) rfl (rest := rest) rfl (by rw [hb]; exact hdg) t
  simp only [arrV_size] at h1
  exact h1 st
theorem vx_iastZ {D : va_G} {cl : List vw_C} {ws : va_W} {tys : List (ClassId × FieldType)} {a : Nat} (hexec : p.tables.exec = Jvm.exec) (hb : c.code = cc) (hK : va_K D cl tys s) (hP : va_P D cl ws H) (q0 t0 : Nat) {cA : ClassId} {n : Nat} {f : Nat → Int32} (ha : ws[q0]? = some (a, .inl (cA, n, .inl f))) (ht : tys[t0]? = some (cA, .int)) {i : Int32} {x : Int32} (hout : ¬ vp_in i n) (hdg : decode cc pc = .ok (.iastore, 1))
    (k : ∀ tx : String, tx = (toString "Index " ++ toString i ++ toString " out of bounds for length " ++ toString n : String) → vx_Note p l e R s m args below meth c H locs cells slots Q (F0 m pc ls rest) "java/lang/ArrayIndexOutOfBoundsException" tx) : W p l e R s m args below meth c H locs cells slots Q (F0 m pc ls (.int x :: .int i :: .ref a :: rest)) := by
  intro T hT X
  obtain ⟨t, st, q⟩ := k _ rfl T hT X
  refine ⟨t, ?_, q⟩
  have h1 := X.iastoreOut hexec (by rw [hT]; exact hP q0 _ ha) ((hK.2 t0 _ ht).1 n (fun j => .int (f j))) (j := i) (by show (i < 0 ∨ (arrV _ _ _).slots.size ≤ _); rw [arrV_size]; exact Classical.byContradiction hout) (g := F0 m pc ls (.int x :: .int i :: .ref a :: rest)) rfl (rest := rest) rfl (by rw [hb]; exact hdg) t
  simp only [arrV_size] at h1
  exact h1 st
theorem vx_baldZ {D : va_G} {cl : List vw_C} {ws : va_W} {tys : List (ClassId × FieldType)} {a : Nat} (hexec : p.tables.exec = Jvm.exec) (hb : c.code = cc) (hK : va_K D cl tys s) (hP : va_P D cl ws H) (q0 t0 : Nat) {cA : ClassId} {n : Nat} {f : Nat → Int32} (ha : ws[q0]? = some (a, .inl (cA, n, .inl f))) (ht : tys[t0]? = some (cA, .byte)) {i : Int32} (hout : ¬ vp_in i n) (hdg : decode cc pc = .ok (.baload, 1))
    (k : ∀ tx : String, tx = (toString "Index " ++ toString i ++ toString " out of bounds for length " ++ toString n : String) → vx_Note p l e R s m args below meth c H locs cells slots Q (F0 m pc ls rest) "java/lang/ArrayIndexOutOfBoundsException" tx) : W p l e R s m args below meth c H locs cells slots Q (F0 m pc ls (.int i :: .ref a :: rest)) := by
  intro T hT X
  obtain ⟨t, st, q⟩ := k _ rfl T hT X
  refine ⟨t, ?_, q⟩
  have h1 := X.baloadOut hexec (by rw [hT]; exact hP q0 _ ha) ((hK.2 t0 _ ht).1 n (fun j => .int (f j))) (j := i) (by show (i < 0 ∨ (arrV _ _ _).slots.size ≤ _); rw [arrV_size]; exact Classical.byContradiction hout) (g := F0 m pc ls (.int i :: .ref a :: rest)) rfl (rest := rest) rfl (by rw [hb]; exact hdg) t
  simp only [arrV_size] at h1
  exact h1 st
theorem vx_bastZ {D : va_G} {cl : List vw_C} {ws : va_W} {tys : List (ClassId × FieldType)} {a : Nat} (hexec : p.tables.exec = Jvm.exec) (hb : c.code = cc) (hK : va_K D cl tys s) (hP : va_P D cl ws H) (q0 t0 : Nat) {cA : ClassId} {n : Nat} {f : Nat → Int32} (ha : ws[q0]? = some (a, .inl (cA, n, .inl f))) (ht : tys[t0]? = some (cA, .byte)) {i : Int32} {x : Int32} (hout : ¬ vp_in i n) (hdg : decode cc pc = .ok (.bastore, 1))
    (k : ∀ tx : String, tx = (toString "Index " ++ toString i ++ toString " out of bounds for length " ++ toString n : String) → vx_Note p l e R s m args below meth c H locs cells slots Q (F0 m pc ls rest) "java/lang/ArrayIndexOutOfBoundsException" tx) : W p l e R s m args below meth c H locs cells slots Q (F0 m pc ls (.int x :: .int i :: .ref a :: rest)) := by
  intro T hT X
  obtain ⟨t, st, q⟩ := k _ rfl T hT X
  refine ⟨t, ?_, q⟩
  have h1 := X.bastoreOut hexec (by rw [hT]; exact hP q0 _ ha) ((hK.2 t0 _ ht).1 n (fun j => .int (f j))) (j := i) (by show (i < 0 ∨ (arrV _ _ _).slots.size ≤ _); rw [arrV_size]; exact Classical.byContradiction hout) (g := F0 m pc ls (.int x :: .int i :: .ref a :: rest)) rfl (rest := rest) rfl (by rw [hb]; exact hdg) t
  simp only [arrV_size] at h1
  exact h1 st
theorem vx_zaldZ {D : va_G} {cl : List vw_C} {ws : va_W} {tys : List (ClassId × FieldType)} {a : Nat} (hexec : p.tables.exec = Jvm.exec) (hb : c.code = cc) (hK : va_K D cl tys s) (hP : va_P D cl ws H) (q0 t0 : Nat) {cA : ClassId} {n : Nat} {f : Nat → Int32} (ha : ws[q0]? = some (a, .inl (cA, n, .inl f))) (ht : tys[t0]? = some (cA, .boolean)) {i : Int32} (hout : ¬ vp_in i n) (hdg : decode cc pc = .ok (.baload, 1))
    (k : ∀ tx : String, tx = (toString "Index " ++ toString i ++ toString " out of bounds for length " ++ toString n : String) → vx_Note p l e R s m args below meth c H locs cells slots Q (F0 m pc ls rest) "java/lang/ArrayIndexOutOfBoundsException" tx) : W p l e R s m args below meth c H locs cells slots Q (F0 m pc ls (.int i :: .ref a :: rest)) := by
  intro T hT X
  obtain ⟨t, st, q⟩ := k _ rfl T hT X
  refine ⟨t, ?_, q⟩
  have h1 := X.baloadOut hexec (by rw [hT]; exact hP q0 _ ha) ((hK.2 t0 _ ht).1 n (fun j => .int (f j))) (j := i) (by show (i < 0 ∨ (arrV _ _ _).slots.size ≤ _); rw [arrV_size]; exact Classical.byContradiction hout) (g := F0 m pc ls (.int i :: .ref a :: rest)) rfl (rest := rest) rfl (by rw [hb]; exact hdg) t
  simp only [arrV_size] at h1
  exact h1 st
theorem vx_zastZ {D : va_G} {cl : List vw_C} {ws : va_W} {tys : List (ClassId × FieldType)} {a : Nat} (hexec : p.tables.exec = Jvm.exec) (hb : c.code = cc) (hK : va_K D cl tys s) (hP : va_P D cl ws H) (q0 t0 : Nat) {cA : ClassId} {n : Nat} {f : Nat → Int32} (ha : ws[q0]? = some (a, .inl (cA, n, .inl f))) (ht : tys[t0]? = some (cA, .boolean)) {i : Int32} {x : Int32} (hout : ¬ vp_in i n) (hdg : decode cc pc = .ok (.bastore, 1))
    (k : ∀ tx : String, tx = (toString "Index " ++ toString i ++ toString " out of bounds for length " ++ toString n : String) → vx_Note p l e R s m args below meth c H locs cells slots Q (F0 m pc ls rest) "java/lang/ArrayIndexOutOfBoundsException" tx) : W p l e R s m args below meth c H locs cells slots Q (F0 m pc ls (.int x :: .int i :: .ref a :: rest)) := by
  intro T hT X
  obtain ⟨t, st, q⟩ := k _ rfl T hT X
  refine ⟨t, ?_, q⟩
  have h1 := X.bastoreOut hexec (by rw [hT]; exact hP q0 _ ha) ((hK.2 t0 _ ht).1 n (fun j => .int (f j))) (j := i) (by show (i < 0 ∨ (arrV _ _ _).slots.size ≤ _); rw [arrV_size]; exact Classical.byContradiction hout) (g := F0 m pc ls (.int x :: .int i :: .ref a :: rest)) rfl (rest := rest) rfl (by rw [hb]; exact hdg) t
  simp only [arrV_size] at h1
  exact h1 st
theorem vx_caldZ {D : va_G} {cl : List vw_C} {ws : va_W} {tys : List (ClassId × FieldType)} {a : Nat} (hexec : p.tables.exec = Jvm.exec) (hb : c.code = cc) (hK : va_K D cl tys s) (hP : va_P D cl ws H) (q0 t0 : Nat) {cA : ClassId} {n : Nat} {f : Nat → Int32} (ha : ws[q0]? = some (a, .inl (cA, n, .inl f))) (ht : tys[t0]? = some (cA, .char)) {i : Int32} (hout : ¬ vp_in i n) (hdg : decode cc pc = .ok (.caload, 1))
    (k : ∀ tx : String, tx = (toString "Index " ++ toString i ++ toString " out of bounds for length " ++ toString n : String) → vx_Note p l e R s m args below meth c H locs cells slots Q (F0 m pc ls rest) "java/lang/ArrayIndexOutOfBoundsException" tx) : W p l e R s m args below meth c H locs cells slots Q (F0 m pc ls (.int i :: .ref a :: rest)) := by
  intro T hT X
  obtain ⟨t, st, q⟩ := k _ rfl T hT X
  refine ⟨t, ?_, q⟩
  have h1 := X.caloadOut hexec (by rw [hT]; exact hP q0 _ ha) ((hK.2 t0 _ ht).1 n (fun j => .int (f j))) (j := i) (by show (i < 0 ∨ (arrV _ _ _).slots.size ≤ _); rw [arrV_size]; exact Classical.byContradiction hout) (g := F0 m pc ls (.int i :: .ref a :: rest)) rfl (rest := rest) rfl (by rw [hb]; exact hdg) t
  simp only [arrV_size] at h1
  exact h1 st
theorem vx_castZ {D : va_G} {cl : List vw_C} {ws : va_W} {tys : List (ClassId × FieldType)} {a : Nat} (hexec : p.tables.exec = Jvm.exec) (hb : c.code = cc) (hK : va_K D cl tys s) (hP : va_P D cl ws H) (q0 t0 : Nat) {cA : ClassId} {n : Nat} {f : Nat → Int32} (ha : ws[q0]? = some (a, .inl (cA, n, .inl f))) (ht : tys[t0]? = some (cA, .char)) {i : Int32} {x : Int32} (hout : ¬ vp_in i n) (hdg : decode cc pc = .ok (.castore, 1))
    (k : ∀ tx : String, tx = (toString "Index " ++ toString i ++ toString " out of bounds for length " ++ toString n : String) → vx_Note p l e R s m args below meth c H locs cells slots Q (F0 m pc ls rest) "java/lang/ArrayIndexOutOfBoundsException" tx) : W p l e R s m args below meth c H locs cells slots Q (F0 m pc ls (.int x :: .int i :: .ref a :: rest)) := by
  intro T hT X
  obtain ⟨t, st, q⟩ := k _ rfl T hT X
  refine ⟨t, ?_, q⟩
  have h1 := X.castoreOut hexec (by rw [hT]; exact hP q0 _ ha) ((hK.2 t0 _ ht).1 n (fun j => .int (f j))) (j := i) (by show (i < 0 ∨ (arrV _ _ _).slots.size ≤ _); rw [arrV_size]; exact Classical.byContradiction hout) (g := F0 m pc ls (.int x :: .int i :: .ref a :: rest)) rfl (rest := rest) rfl (by rw [hb]; exact hdg) t
  simp only [arrV_size] at h1
  exact h1 st
theorem vx_saldZ {D : va_G} {cl : List vw_C} {ws : va_W} {tys : List (ClassId × FieldType)} {a : Nat} (hexec : p.tables.exec = Jvm.exec) (hb : c.code = cc) (hK : va_K D cl tys s) (hP : va_P D cl ws H) (q0 t0 : Nat) {cA : ClassId} {n : Nat} {f : Nat → Int32} (ha : ws[q0]? = some (a, .inl (cA, n, .inl f))) (ht : tys[t0]? = some (cA, .short)) {i : Int32} (hout : ¬ vp_in i n) (hdg : decode cc pc = .ok (.saload, 1))
    (k : ∀ tx : String, tx = (toString "Index " ++ toString i ++ toString " out of bounds for length " ++ toString n : String) → vx_Note p l e R s m args below meth c H locs cells slots Q (F0 m pc ls rest) "java/lang/ArrayIndexOutOfBoundsException" tx) : W p l e R s m args below meth c H locs cells slots Q (F0 m pc ls (.int i :: .ref a :: rest)) := by
  intro T hT X
  obtain ⟨t, st, q⟩ := k _ rfl T hT X
  refine ⟨t, ?_, q⟩
  have h1 := X.saloadOut hexec (by rw [hT]; exact hP q0 _ ha) ((hK.2 t0 _ ht).1 n (fun j => .int (f j))) (j := i) (by show (i < 0 ∨ (arrV _ _ _).slots.size ≤ _); rw [arrV_size]; exact Classical.byContradiction hout) (g := F0 m pc ls (.int i :: .ref a :: rest)) rfl (rest := rest) rfl (by rw [hb]; exact hdg) t
  simp only [arrV_size] at h1
  exact h1 st
theorem vx_sastZ {D : va_G} {cl : List vw_C} {ws : va_W} {tys : List (ClassId × FieldType)} {a : Nat} (hexec : p.tables.exec = Jvm.exec) (hb : c.code = cc) (hK : va_K D cl tys s) (hP : va_P D cl ws H) (q0 t0 : Nat) {cA : ClassId} {n : Nat} {f : Nat → Int32} (ha : ws[q0]? = some (a, .inl (cA, n, .inl f))) (ht : tys[t0]? = some (cA, .short)) {i : Int32} {x : Int32} (hout : ¬ vp_in i n) (hdg : decode cc pc = .ok (.sastore, 1))
    (k : ∀ tx : String, tx = (toString "Index " ++ toString i ++ toString " out of bounds for length " ++ toString n : String) → vx_Note p l e R s m args below meth c H locs cells slots Q (F0 m pc ls rest) "java/lang/ArrayIndexOutOfBoundsException" tx) : W p l e R s m args below meth c H locs cells slots Q (F0 m pc ls (.int x :: .int i :: .ref a :: rest)) := by
  intro T hT X
  obtain ⟨t, st, q⟩ := k _ rfl T hT X
  refine ⟨t, ?_, q⟩
  have h1 := X.sastoreOut hexec (by rw [hT]; exact hP q0 _ ha) ((hK.2 t0 _ ht).1 n (fun j => .int (f j))) (j := i) (by show (i < 0 ∨ (arrV _ _ _).slots.size ≤ _); rw [arrV_size]; exact Classical.byContradiction hout) (g := F0 m pc ls (.int x :: .int i :: .ref a :: rest)) rfl (rest := rest) rfl (by rw [hb]; exact hdg) t
  simp only [arrV_size] at h1
  exact h1 st
theorem vx_laldZ {D : va_G} {cl : List vw_C} {ws : va_W} {tys : List (ClassId × FieldType)} {a : Nat} (hexec : p.tables.exec = Jvm.exec) (hb : c.code = cc) (hK : va_K D cl tys s) (hP : va_P D cl ws H) (q0 t0 : Nat) {cA : ClassId} {n : Nat} {f : Nat → Int64} (ha : ws[q0]? = some (a, .inl (cA, n, .inr (.inl f)))) (ht : tys[t0]? = some (cA, .long)) {i : Int32} (hout : ¬ vp_in i n) (hdg : decode cc pc = .ok (.laload, 1))
    (k : ∀ tx : String, tx = (toString "Index " ++ toString i ++ toString " out of bounds for length " ++ toString n : String) → vx_Note p l e R s m args below meth c H locs cells slots Q (F0 m pc ls rest) "java/lang/ArrayIndexOutOfBoundsException" tx) : W p l e R s m args below meth c H locs cells slots Q (F0 m pc ls (.int i :: .ref a :: rest)) := by
  intro T hT X
  obtain ⟨t, st, q⟩ := k _ rfl T hT X
  refine ⟨t, ?_, q⟩
  have h1 := X.laloadOut hexec (by rw [hT]; exact hP q0 _ ha) ((hK.2 t0 _ ht).1 n (fun j => .long (f j))) (j := i) (by show (i < 0 ∨ (arrV _ _ _).slots.size ≤ _); rw [arrV_size]; exact Classical.byContradiction hout) (g := F0 m pc ls (.int i :: .ref a :: rest)) rfl (rest := rest) rfl (by rw [hb]; exact hdg) t
  simp only [arrV_size] at h1
  exact h1 st
theorem vx_lastZ {D : va_G} {cl : List vw_C} {ws : va_W} {tys : List (ClassId × FieldType)} {a : Nat} (hexec : p.tables.exec = Jvm.exec) (hb : c.code = cc) (hK : va_K D cl tys s) (hP : va_P D cl ws H) (q0 t0 : Nat) {cA : ClassId} {n : Nat} {f : Nat → Int64} (ha : ws[q0]? = some (a, .inl (cA, n, .inr (.inl f)))) (ht : tys[t0]? = some (cA, .long)) {i : Int32} {x : Int64} (hout : ¬ vp_in i n) (hdg : decode cc pc = .ok (.lastore, 1))
    (k : ∀ tx : String, tx = (toString "Index " ++ toString i ++ toString " out of bounds for length " ++ toString n : String) → vx_Note p l e R s m args below meth c H locs cells slots Q (F0 m pc ls rest) "java/lang/ArrayIndexOutOfBoundsException" tx) : W p l e R s m args below meth c H locs cells slots Q (F0 m pc ls (.long x :: .int i :: .ref a :: rest)) := by
  intro T hT X
  obtain ⟨t, st, q⟩ := k _ rfl T hT X
  refine ⟨t, ?_, q⟩
  have h1 := X.lastoreOut hexec (by rw [hT]; exact hP q0 _ ha) ((hK.2 t0 _ ht).1 n (fun j => .long (f j))) (j := i) (by show (i < 0 ∨ (arrV _ _ _).slots.size ≤ _); rw [arrV_size]; exact Classical.byContradiction hout) (g := F0 m pc ls (.long x :: .int i :: .ref a :: rest)) rfl (rest := rest) rfl (by rw [hb]; exact hdg) t
  simp only [arrV_size] at h1
  exact h1 st
theorem vx_faldZ {D : va_G} {cl : List vw_C} {ws : va_W} {tys : List (ClassId × FieldType)} {a : Nat} (hexec : p.tables.exec = Jvm.exec) (hb : c.code = cc) (hK : va_K D cl tys s) (hP : va_P D cl ws H) (q0 t0 : Nat) {cA : ClassId} {n : Nat} {f : Nat → UInt32} (ha : ws[q0]? = some (a, .inl (cA, n, .inr (.inr (.inl f))))) (ht : tys[t0]? = some (cA, .float)) {i : Int32} (hout : ¬ vp_in i n) (hdg : decode cc pc = .ok (.faload, 1))
    (k : ∀ tx : String, tx = (toString "Index " ++ toString i ++ toString " out of bounds for length " ++ toString n : String) → vx_Note p l e R s m args below meth c H locs cells slots Q (F0 m pc ls rest) "java/lang/ArrayIndexOutOfBoundsException" tx) : W p l e R s m args below meth c H locs cells slots Q (F0 m pc ls (.int i :: .ref a :: rest)) := by
  intro T hT X
  obtain ⟨t, st, q⟩ := k _ rfl T hT X
  refine ⟨t, ?_, q⟩
  have h1 := X.faloadOut hexec (by rw [hT]; exact hP q0 _ ha) ((hK.2 t0 _ ht).1 n (fun j => .float (f j))) (j := i) (by show (i < 0 ∨ (arrV _ _ _).slots.size ≤ _); rw [arrV_size]; exact Classical.byContradiction hout) (g := F0 m pc ls (.int i :: .ref a :: rest)) rfl (rest := rest) rfl (by rw [hb]; exact hdg) t
  simp only [arrV_size] at h1
  exact h1 st
theorem vx_fastZ {D : va_G} {cl : List vw_C} {ws : va_W} {tys : List (ClassId × FieldType)} {a : Nat} (hexec : p.tables.exec = Jvm.exec) (hb : c.code = cc) (hK : va_K D cl tys s) (hP : va_P D cl ws H) (q0 t0 : Nat) {cA : ClassId} {n : Nat} {f : Nat → UInt32} (ha : ws[q0]? = some (a, .inl (cA, n, .inr (.inr (.inl f))))) (ht : tys[t0]? = some (cA, .float)) {i : Int32} {x : UInt32} (hout : ¬ vp_in i n) (hdg : decode cc pc = .ok (.fastore, 1))
    (k : ∀ tx : String, tx = (toString "Index " ++ toString i ++ toString " out of bounds for length " ++ toString n : String) → vx_Note p l e R s m args below meth c H locs cells slots Q (F0 m pc ls rest) "java/lang/ArrayIndexOutOfBoundsException" tx) : W p l e R s m args below meth c H locs cells slots Q (F0 m pc ls (.float x :: .int i :: .ref a :: rest)) := by
  intro T hT X
  obtain ⟨t, st, q⟩ := k _ rfl T hT X
  refine ⟨t, ?_, q⟩
  have h1 := X.fastoreOut hexec (by rw [hT]; exact hP q0 _ ha) ((hK.2 t0 _ ht).1 n (fun j => .float (f j))) (j := i) (by show (i < 0 ∨ (arrV _ _ _).slots.size ≤ _); rw [arrV_size]; exact Classical.byContradiction hout) (g := F0 m pc ls (.float x :: .int i :: .ref a :: rest)) rfl (rest := rest) rfl (by rw [hb]; exact hdg) t
  simp only [arrV_size] at h1
  exact h1 st
theorem vx_daldZ {D : va_G} {cl : List vw_C} {ws : va_W} {tys : List (ClassId × FieldType)} {a : Nat} (hexec : p.tables.exec = Jvm.exec) (hb : c.code = cc) (hK : va_K D cl tys s) (hP : va_P D cl ws H) (q0 t0 : Nat) {cA : ClassId} {n : Nat} {f : Nat → UInt64} (ha : ws[q0]? = some (a, .inl (cA, n, .inr (.inr (.inr (.inl f)))))) (ht : tys[t0]? = some (cA, .double)) {i : Int32} (hout : ¬ vp_in i n) (hdg : decode cc pc = .ok (.daload, 1))
    (k : ∀ tx : String, tx = (toString "Index " ++ toString i ++ toString " out of bounds for length " ++ toString n : String) → vx_Note p l e R s m args below meth c H locs cells slots Q (F0 m pc ls rest) "java/lang/ArrayIndexOutOfBoundsException" tx) : W p l e R s m args below meth c H locs cells slots Q (F0 m pc ls (.int i :: .ref a :: rest)) := by
  intro T hT X
  obtain ⟨t, st, q⟩ := k _ rfl T hT X
  refine ⟨t, ?_, q⟩
  have h1 := X.daloadOut hexec (by rw [hT]; exact hP q0 _ ha) ((hK.2 t0 _ ht).1 n (fun j => .double (f j))) (j := i) (by show (i < 0 ∨ (arrV _ _ _).slots.size ≤ _); rw [arrV_size]; exact Classical.byContradiction hout) (g := F0 m pc ls (.int i :: .ref a :: rest)) rfl (rest := rest) rfl (by rw [hb]; exact hdg) t
  simp only [arrV_size] at h1
  exact h1 st
theorem vx_dastZ {D : va_G} {cl : List vw_C} {ws : va_W} {tys : List (ClassId × FieldType)} {a : Nat} (hexec : p.tables.exec = Jvm.exec) (hb : c.code = cc) (hK : va_K D cl tys s) (hP : va_P D cl ws H) (q0 t0 : Nat) {cA : ClassId} {n : Nat} {f : Nat → UInt64} (ha : ws[q0]? = some (a, .inl (cA, n, .inr (.inr (.inr (.inl f)))))) (ht : tys[t0]? = some (cA, .double)) {i : Int32} {x : UInt64} (hout : ¬ vp_in i n) (hdg : decode cc pc = .ok (.dastore, 1))
    (k : ∀ tx : String, tx = (toString "Index " ++ toString i ++ toString " out of bounds for length " ++ toString n : String) → vx_Note p l e R s m args below meth c H locs cells slots Q (F0 m pc ls rest) "java/lang/ArrayIndexOutOfBoundsException" tx) : W p l e R s m args below meth c H locs cells slots Q (F0 m pc ls (.double x :: .int i :: .ref a :: rest)) := by
  intro T hT X
  obtain ⟨t, st, q⟩ := k _ rfl T hT X
  refine ⟨t, ?_, q⟩
  have h1 := X.dastoreOut hexec (by rw [hT]; exact hP q0 _ ha) ((hK.2 t0 _ ht).1 n (fun j => .double (f j))) (j := i) (by show (i < 0 ∨ (arrV _ _ _).slots.size ≤ _); rw [arrV_size]; exact Classical.byContradiction hout) (g := F0 m pc ls (.double x :: .int i :: .ref a :: rest)) rfl (rest := rest) rfl (by rw [hb]; exact hdg) t
  simp only [arrV_size] at h1
  exact h1 st
theorem vx_arraylengthN (hexec : p.tables.exec = Jvm.exec) (hb : c.code = cc) (hdg : decode cc pc = .ok (.arraylength, 1)) (k : vx_NoteN p l e R s m args below meth c H locs cells slots Q (F0 m pc ls rest)) : W p l e R s m args below meth c H locs cells slots Q (F0 m pc ls (.null :: rest)) := by
  intro T hT X
  obtain ⟨t, st, q⟩ := k T hT X
  exact ⟨t, X.arraylengthNull hexec (g := F0 m pc ls (.null :: rest)) rfl (rest := rest) rfl (by rw [hb]; exact hdg) t st, q⟩
theorem vx_ialoadN (hexec : p.tables.exec = Jvm.exec) (hb : c.code = cc) {i : Int32} (hdg : decode cc pc = .ok (.iaload, 1)) (k : vx_NoteN p l e R s m args below meth c H locs cells slots Q (F0 m pc ls rest)) : W p l e R s m args below meth c H locs cells slots Q (F0 m pc ls (.int i :: .null :: rest)) := by
  intro T hT X
  obtain ⟨t, st, q⟩ := k T hT X
  exact ⟨t, X.ialoadNull hexec (g := F0 m pc ls (.int i :: .null :: rest)) rfl (rest := rest) rfl (by rw [hb]; exact hdg) t st, q⟩
theorem vx_laloadN (hexec : p.tables.exec = Jvm.exec) (hb : c.code = cc) {i : Int32} (hdg : decode cc pc = .ok (.laload, 1)) (k : vx_NoteN p l e R s m args below meth c H locs cells slots Q (F0 m pc ls rest)) : W p l e R s m args below meth c H locs cells slots Q (F0 m pc ls (.int i :: .null :: rest)) := by
  intro T hT X
  obtain ⟨t, st, q⟩ := k T hT X
  exact ⟨t, X.laloadNull hexec (g := F0 m pc ls (.int i :: .null :: rest)) rfl (rest := rest) rfl (by rw [hb]; exact hdg) t st, q⟩
theorem vx_faloadN (hexec : p.tables.exec = Jvm.exec) (hb : c.code = cc) {i : Int32} (hdg : decode cc pc = .ok (.faload, 1)) (k : vx_NoteN p l e R s m args below meth c H locs cells slots Q (F0 m pc ls rest)) : W p l e R s m args below meth c H locs cells slots Q (F0 m pc ls (.int i :: .null :: rest)) := by
  intro T hT X
  obtain ⟨t, st, q⟩ := k T hT X
  exact ⟨t, X.faloadNull hexec (g := F0 m pc ls (.int i :: .null :: rest)) rfl (rest := rest) rfl (by rw [hb]; exact hdg) t st, q⟩
theorem vx_daloadN (hexec : p.tables.exec = Jvm.exec) (hb : c.code = cc) {i : Int32} (hdg : decode cc pc = .ok (.daload, 1)) (k : vx_NoteN p l e R s m args below meth c H locs cells slots Q (F0 m pc ls rest)) : W p l e R s m args below meth c H locs cells slots Q (F0 m pc ls (.int i :: .null :: rest)) := by
  intro T hT X
  obtain ⟨t, st, q⟩ := k T hT X
  exact ⟨t, X.daloadNull hexec (g := F0 m pc ls (.int i :: .null :: rest)) rfl (rest := rest) rfl (by rw [hb]; exact hdg) t st, q⟩
theorem vx_aaloadN (hexec : p.tables.exec = Jvm.exec) (hb : c.code = cc) {i : Int32} (hdg : decode cc pc = .ok (.aaload, 1)) (k : vx_NoteN p l e R s m args below meth c H locs cells slots Q (F0 m pc ls rest)) : W p l e R s m args below meth c H locs cells slots Q (F0 m pc ls (.int i :: .null :: rest)) := by
  intro T hT X
  obtain ⟨t, st, q⟩ := k T hT X
  exact ⟨t, X.aaloadNull hexec (g := F0 m pc ls (.int i :: .null :: rest)) rfl (rest := rest) rfl (by rw [hb]; exact hdg) t st, q⟩
theorem vx_baloadN (hexec : p.tables.exec = Jvm.exec) (hb : c.code = cc) {i : Int32} (hdg : decode cc pc = .ok (.baload, 1)) (k : vx_NoteN p l e R s m args below meth c H locs cells slots Q (F0 m pc ls rest)) : W p l e R s m args below meth c H locs cells slots Q (F0 m pc ls (.int i :: .null :: rest)) := by
  intro T hT X
  obtain ⟨t, st, q⟩ := k T hT X
  exact ⟨t, X.baloadNull hexec (g := F0 m pc ls (.int i :: .null :: rest)) rfl (rest := rest) rfl (by rw [hb]; exact hdg) t st, q⟩
theorem vx_caloadN (hexec : p.tables.exec = Jvm.exec) (hb : c.code = cc) {i : Int32} (hdg : decode cc pc = .ok (.caload, 1)) (k : vx_NoteN p l e R s m args below meth c H locs cells slots Q (F0 m pc ls rest)) : W p l e R s m args below meth c H locs cells slots Q (F0 m pc ls (.int i :: .null :: rest)) := by
  intro T hT X
  obtain ⟨t, st, q⟩ := k T hT X
  exact ⟨t, X.caloadNull hexec (g := F0 m pc ls (.int i :: .null :: rest)) rfl (rest := rest) rfl (by rw [hb]; exact hdg) t st, q⟩
theorem vx_saloadN (hexec : p.tables.exec = Jvm.exec) (hb : c.code = cc) {i : Int32} (hdg : decode cc pc = .ok (.saload, 1)) (k : vx_NoteN p l e R s m args below meth c H locs cells slots Q (F0 m pc ls rest)) : W p l e R s m args below meth c H locs cells slots Q (F0 m pc ls (.int i :: .null :: rest)) := by
  intro T hT X
  obtain ⟨t, st, q⟩ := k T hT X
  exact ⟨t, X.saloadNull hexec (g := F0 m pc ls (.int i :: .null :: rest)) rfl (rest := rest) rfl (by rw [hb]; exact hdg) t st, q⟩
theorem vx_iastoreN (hexec : p.tables.exec = Jvm.exec) (hb : c.code = cc) {x : Int32} {i : Int32} (hdg : decode cc pc = .ok (.iastore, 1)) (k : vx_NoteN p l e R s m args below meth c H locs cells slots Q (F0 m pc ls rest)) : W p l e R s m args below meth c H locs cells slots Q (F0 m pc ls (.int x :: .int i :: .null :: rest)) := by
  intro T hT X
  obtain ⟨t, st, q⟩ := k T hT X
  exact ⟨t, X.iastoreNull hexec (g := F0 m pc ls (.int x :: .int i :: .null :: rest)) rfl (rest := rest) rfl (by rw [hb]; exact hdg) t st, q⟩
theorem vx_lastoreN (hexec : p.tables.exec = Jvm.exec) (hb : c.code = cc) {x : Int64} {i : Int32} (hdg : decode cc pc = .ok (.lastore, 1)) (k : vx_NoteN p l e R s m args below meth c H locs cells slots Q (F0 m pc ls rest)) : W p l e R s m args below meth c H locs cells slots Q (F0 m pc ls (.long x :: .int i :: .null :: rest)) := by
  intro T hT X
  obtain ⟨t, st, q⟩ := k T hT X
  exact ⟨t, X.lastoreNull hexec (g := F0 m pc ls (.long x :: .int i :: .null :: rest)) rfl (rest := rest) rfl (by rw [hb]; exact hdg) t st, q⟩
theorem vx_fastoreN (hexec : p.tables.exec = Jvm.exec) (hb : c.code = cc) {x : UInt32} {i : Int32} (hdg : decode cc pc = .ok (.fastore, 1)) (k : vx_NoteN p l e R s m args below meth c H locs cells slots Q (F0 m pc ls rest)) : W p l e R s m args below meth c H locs cells slots Q (F0 m pc ls (.float x :: .int i :: .null :: rest)) := by
  intro T hT X
  obtain ⟨t, st, q⟩ := k T hT X
  exact ⟨t, X.fastoreNull hexec (g := F0 m pc ls (.float x :: .int i :: .null :: rest)) rfl (rest := rest) rfl (by rw [hb]; exact hdg) t st, q⟩
theorem vx_dastoreN (hexec : p.tables.exec = Jvm.exec) (hb : c.code = cc) {x : UInt64} {i : Int32} (hdg : decode cc pc = .ok (.dastore, 1)) (k : vx_NoteN p l e R s m args below meth c H locs cells slots Q (F0 m pc ls rest)) : W p l e R s m args below meth c H locs cells slots Q (F0 m pc ls (.double x :: .int i :: .null :: rest)) := by
  intro T hT X
  obtain ⟨t, st, q⟩ := k T hT X
  exact ⟨t, X.dastoreNull hexec (g := F0 m pc ls (.double x :: .int i :: .null :: rest)) rfl (rest := rest) rfl (by rw [hb]; exact hdg) t st, q⟩
theorem vx_bastoreN (hexec : p.tables.exec = Jvm.exec) (hb : c.code = cc) {x : Int32} {i : Int32} (hdg : decode cc pc = .ok (.bastore, 1)) (k : vx_NoteN p l e R s m args below meth c H locs cells slots Q (F0 m pc ls rest)) : W p l e R s m args below meth c H locs cells slots Q (F0 m pc ls (.int x :: .int i :: .null :: rest)) := by
  intro T hT X
  obtain ⟨t, st, q⟩ := k T hT X
  exact ⟨t, X.bastoreNull hexec (g := F0 m pc ls (.int x :: .int i :: .null :: rest)) rfl (rest := rest) rfl (by rw [hb]; exact hdg) t st, q⟩
theorem vx_castoreN (hexec : p.tables.exec = Jvm.exec) (hb : c.code = cc) {x : Int32} {i : Int32} (hdg : decode cc pc = .ok (.castore, 1)) (k : vx_NoteN p l e R s m args below meth c H locs cells slots Q (F0 m pc ls rest)) : W p l e R s m args below meth c H locs cells slots Q (F0 m pc ls (.int x :: .int i :: .null :: rest)) := by
  intro T hT X
  obtain ⟨t, st, q⟩ := k T hT X
  exact ⟨t, X.castoreNull hexec (g := F0 m pc ls (.int x :: .int i :: .null :: rest)) rfl (rest := rest) rfl (by rw [hb]; exact hdg) t st, q⟩
theorem vx_sastoreN (hexec : p.tables.exec = Jvm.exec) (hb : c.code = cc) {x : Int32} {i : Int32} (hdg : decode cc pc = .ok (.sastore, 1)) (k : vx_NoteN p l e R s m args below meth c H locs cells slots Q (F0 m pc ls rest)) : W p l e R s m args below meth c H locs cells slots Q (F0 m pc ls (.int x :: .int i :: .null :: rest)) := by
  intro T hT X
  obtain ⟨t, st, q⟩ := k T hT X
  exact ⟨t, X.sastoreNull hexec (g := F0 m pc ls (.int x :: .int i :: .null :: rest)) rfl (rest := rest) rfl (by rw [hb]; exact hdg) t st, q⟩
theorem vx_invokeN {own C : String} {index maxL : Nat} {y : MethodName} {bytes : ByteArray} {ret : Option FieldType} (hexec : p.tables.exec = Jvm.exec) (hb : c.code = cc) (hown : s.vm.findClass own = some m.cls) (hlink : (Cond.methodLink own index y).before args s = true) (hinst : (Cond.instanceMethod y).before args s = true) (hcode : (Cond.code y bytes maxL ret).before args s = true) (hsel : (Cond.selects C y y).before args s = true)
    (hx : y.cls ≠ "java/lang/invoke/MethodHandle" ∧ y.cls ≠ "java/lang/invoke/VarHandle") {As : List Value} (hlen : (parseMethodDescriptor y.desc).map (fun d => d.parameters.length) = some As.length) (hdg : decode cc pc = .ok (.invokevirtual index, 3))
    (k : vx_NoteN p l e R s m args below meth c H locs cells slots Q (F0 m pc ls rest)) {st0 : List Value} (hst : st0 = As.reverse ++ .null :: rest) : W p l e R s m args below meth c H locs cells slots Q (F0 m pc ls st0) := by
  intro T hT X
  obtain ⟨r0, r, hn, hrm, hstR, hsigR⟩ := va_Decl.of hinst hcode
  obtain ⟨c2, r2, m2, q1, q2, q3, q4, kP, hkP, hkPi⟩ := Cond.selects_spec hsel
  cases hn.symm.trans q3
  have hl9 : As.length = r.sig.parameters.length := by
    rw [hsigR] at hlen
    exact (Option.some.inj hlen).symm
  obtain ⟨vm', X1, st1⟩ := X.invokevirtualNull hexec hown hlink hn hrm hstR hkP hkPi hx (g := F0 m pc ls st0) rfl (argsL := As) (rest := rest) hl9 hst (by rw [hb]; exact hdg)
  obtain ⟨t, st, q⟩ := k (T.setVm vm') hT X1
  exact ⟨t, st1 t st, q⟩
theorem vx_newarrayZ {atype : ArrayType} (hexec : p.tables.exec = Jvm.exec) (hb : c.code = cc) {n : Int32} (h0 : n < 0) (hdg : decode cc pc = .ok (.newarray atype, 2)) (k : ∀ tx : String, tx = toString n → vx_Note p l e R s m args below meth c H locs cells slots Q (F0 m pc ls rest) "java/lang/NegativeArraySizeException" tx) : W p l e R s m args below meth c H locs cells slots Q (F0 m pc ls (.int n :: rest)) := by
  intro T hT X
  obtain ⟨t, st, q⟩ := k _ rfl T hT X
  exact ⟨t, X.newarrayNegative hexec (g := F0 m pc ls (.int n :: rest)) rfl h0 (rest := rest) rfl (by rw [hb]; exact hdg) t st, q⟩
end
end VXM
/-! ===== END ===== -/
end
section
/-! ===== BEGIN printed: names, fields, word lists, decode rows ===== -/
def RX0 : String := "WishWell$Lands"
def TX0 : u_T := fun k => match k with
  | 0 => ("WishWell$Lands", "values", "LWishWell$Row;", true)
  | 1 => ("WishWell$Lands", "weights", "LWishWell$Row;", true)
  | 2 => ("WishWell$Lands", "thrown", "LWishWell$Row;", true)
  | 3 => ("WishWell$Lands", "audited", "LWishWell$Row;", true)
  | 4 => ("WishWell$Lands", "takenBack", "LWishWell$Row;", true)
  | _ => ("WishWell$Lands", "size", "I", false)
def tyX0 : Nat → FieldType := fun k => match k with
  | 0 => .object "WishWell$Row"
  | 1 => .object "WishWell$Row"
  | 2 => .object "WishWell$Row"
  | 3 => .object "WishWell$Row"
  | 4 => .object "WishWell$Row"
  | _ => .int
abbrev wsX00 : List Cond := u_ws RX0 TX0 6
theorem nmX0 : ∀ a, a < 6 → ∀ b, b < 6 → a ≠ b → (TX0 a).2.1 ≠ (TX0 b).2.1 := by decide +kernel
theorem tyX0_ok : ∀ k, k < 6 → parseFieldDescriptor (TX0 k).2.2.1 = some (tyX0 k) := by decide +kernel
abbrev cX0_init : ByteArray := prog_2_method_1_code
def yX0_init : MethodName := ⟨RX0, "<init>", "()V"⟩
abbrev cX0_has : ByteArray := prog_2_method_2_code
def yX0_has : MethodName := ⟨RX0, "has", "(I)Z"⟩
abbrev cX0_tell : ByteArray := prog_2_method_3_code
def yX0_tell : MethodName := ⟨RX0, "tell", "(II)I"⟩
abbrev cX0_takeOver : ByteArray := prog_2_method_4_code
def yX0_takeOver : MethodName := ⟨RX0, "takeOver", "(LWishWell$Lands;)V"⟩
def RX1 : String := "WishWell$Layers"
def TX1 : u_T := fun k => match k with
  | _ => ("WishWell$Layers", "cells", "LWishWell$Row;", true)
def tyX1 : Nat → FieldType := fun k => match k with
  | _ => .object "WishWell$Row"
abbrev wsX10 : List Cond := u_ws RX1 TX1 1
theorem nmX1 : ∀ a, a < 1 → ∀ b, b < 1 → a ≠ b → (TX1 a).2.1 ≠ (TX1 b).2.1 := by decide +kernel
theorem tyX1_ok : ∀ k, k < 1 → parseFieldDescriptor (TX1 k).2.2.1 = some (tyX1 k) := by decide +kernel
abbrev cX1_init : ByteArray := prog_3_method_1_code
def yX1_init : MethodName := ⟨RX1, "<init>", "()V"⟩
abbrev cX1_at : ByteArray := prog_3_method_2_code
def yX1_at : MethodName := ⟨RX1, "at", "(II)I"⟩
abbrev cX1_add : ByteArray := prog_3_method_3_code
def yX1_add : MethodName := ⟨RX1, "add", "(III)V"⟩
abbrev cX1_coinsIn : ByteArray := prog_3_method_4_code
def yX1_coinsIn : MethodName := ⟨RX1, "coinsIn", "(I)I"⟩
abbrev cX1_coinsOf : ByteArray := prog_3_method_5_code
def yX1_coinsOf : MethodName := ⟨RX1, "coinsOf", "(I)I"⟩
abbrev cX1_uppermostOf : ByteArray := prog_3_method_6_code
def yX1_uppermostOf : MethodName := ⟨RX1, "uppermostOf", "(I)I"⟩
abbrev cX1_takeOver : ByteArray := prog_3_method_7_code
def yX1_takeOver : MethodName := ⟨RX1, "takeOver", "(LWishWell$Layers;)V"⟩
abbrev cX1_place : ByteArray := prog_3_method_8_code
def yX1_place : MethodName := ⟨RX1, "place", "(II)I"⟩
def RX2 : String := "WishWell$Row"
def TX2 : u_T := fun k => match k with
  | _ => ("WishWell$Row", "cells", "[I", true)
def tyX2 : Nat → FieldType := fun k => match k with
  | _ => .array .int
abbrev wsX20 : List Cond := u_ws RX2 TX2 1
theorem nmX2 : ∀ a, a < 1 → ∀ b, b < 1 → a ≠ b → (TX2 a).2.1 ≠ (TX2 b).2.1 := by decide +kernel
theorem tyX2_ok : ∀ k, k < 1 → parseFieldDescriptor (TX2 k).2.2.1 = some (tyX2 k) := by decide +kernel
abbrev cX2_init : ByteArray := prog_4_method_1_code
def yX2_init : MethodName := ⟨RX2, "<init>", "(I)V"⟩
abbrev cX2_at : ByteArray := prog_4_method_2_code
def yX2_at : MethodName := ⟨RX2, "at", "(I)I"⟩
abbrev cX2_put : ByteArray := prog_4_method_3_code
def yX2_put : MethodName := ⟨RX2, "put", "(II)V"⟩
abbrev cX2_add : ByteArray := prog_4_method_4_code
def yX2_add : MethodName := ⟨RX2, "add", "(II)V"⟩
abbrev cX2_takeOver : ByteArray := prog_4_method_5_code
def yX2_takeOver : MethodName := ⟨RX2, "takeOver", "(LWishWell$Row;)V"⟩
def RX3 : String := "WishWell$Well"
def TX3 : u_T := fun k => match k with
  | 0 => ("WishWell$Well", "lands", "LWishWell$Lands;", true)
  | 1 => ("WishWell$Well", "wishes", "LWishWell$Wishes;", true)
  | 2 => ("WishWell$Well", "layers", "LWishWell$Layers;", true)
  | 3 => ("WishWell$Well", "tide", "LWishWell$Row;", true)
  | 4 => ("WishWell$Well", "day", "I", false)
  | 5 => ("WishWell$Well", "favour", "I", false)
  | 6 => ("WishWell$Well", "turn", "I", false)
  | 7 => ("WishWell$Well", "purse", "I", false)
  | _ => ("WishWell$Well", "fished", "I", false)
def tyX3 : Nat → FieldType := fun k => match k with
  | 0 => .object "WishWell$Lands"
  | 1 => .object "WishWell$Wishes"
  | 2 => .object "WishWell$Layers"
  | 3 => .object "WishWell$Row"
  | 4 => .int
  | 5 => .int
  | 6 => .int
  | 7 => .int
  | _ => .int
abbrev wsX30 : List Cond := u_ws RX3 TX3 9
theorem nmX3 : ∀ a, a < 9 → ∀ b, b < 9 → a ≠ b → (TX3 a).2.1 ≠ (TX3 b).2.1 := by decide +kernel
theorem tyX3_ok : ∀ k, k < 9 → parseFieldDescriptor (TX3 k).2.2.1 = some (tyX3 k) := by decide +kernel
abbrev cX3_init : ByteArray := prog_5_method_1_code
def yX3_init : MethodName := ⟨RX3, "<init>", "()V"⟩
abbrev cX3_throwCoin : ByteArray := prog_5_method_2_code
def yX3_throwCoin : MethodName := ⟨RX3, "throwCoin", "(I)V"⟩
abbrev cX3_raiseFavour : ByteArray := prog_5_method_3_code
def yX3_raiseFavour : MethodName := ⟨RX3, "raiseFavour", "(I)V"⟩
abbrev cX3_withdrawWish : ByteArray := prog_5_method_4_code
def yX3_withdrawWish : MethodName := ⟨RX3, "withdrawWish", "(I)I"⟩
abbrev cX3_fishCoins : ByteArray := prog_5_method_5_code
def yX3_fishCoins : MethodName := ⟨RX3, "fishCoins", "(II)I"⟩
abbrev cX3_dearestIn : ByteArray := prog_5_method_6_code
def yX3_dearestIn : MethodName := ⟨RX3, "dearestIn", "(I)I"⟩
abbrev cX3_auditLayer : ByteArray := prog_5_method_7_code
def yX3_auditLayer : MethodName := ⟨RX3, "auditLayer", "(I)I"⟩
abbrev cX3_missingCoins : ByteArray := prog_5_method_8_code
def yX3_missingCoins : MethodName := ⟨RX3, "missingCoins", "(I)I"⟩
abbrev cX3_valueIn : ByteArray := prog_5_method_9_code
def yX3_valueIn : MethodName := ⟨RX3, "valueIn", "(I)I"⟩
abbrev cX3_valueOfAll : ByteArray := prog_5_method_10_code
def yX3_valueOfAll : MethodName := ⟨RX3, "valueOfAll", "()I"⟩
abbrev cX3_coinsInAll : ByteArray := prog_5_method_11_code
def yX3_coinsInAll : MethodName := ⟨RX3, "coinsInAll", "()I"⟩
abbrev cX3_landFigure : ByteArray := prog_5_method_12_code
def yX3_landFigure : MethodName := ⟨RX3, "landFigure", "(II)I"⟩
abbrev cX3_figure : ByteArray := prog_5_method_13_code
def yX3_figure : MethodName := ⟨RX3, "figure", "(I)I"⟩
abbrev cX3_nextWish : ByteArray := prog_5_method_14_code
def yX3_nextWish : MethodName := ⟨RX3, "nextWish", "(I)I"⟩
abbrev cX3_coinValue : ByteArray := prog_5_method_15_code
def yX3_coinValue : MethodName := ⟨RX3, "coinValue", "(I)I"⟩
abbrev cX3_liveDays : ByteArray := prog_5_method_16_code
def yX3_liveDays : MethodName := ⟨RX3, "liveDays", "(I)I"⟩
abbrev cX3_liveDay : ByteArray := prog_5_method_17_code
def yX3_liveDay : MethodName := ⟨RX3, "liveDay", "()Z"⟩
abbrev cX3_receiveVisitors : ByteArray := prog_5_method_18_code
def yX3_receiveVisitors : MethodName := ⟨RX3, "receiveVisitors", "()V"⟩
abbrev cX3_sinkCoins : ByteArray := prog_5_method_19_code
def yX3_sinkCoins : MethodName := ⟨RX3, "sinkCoins", "()V"⟩
abbrev cX3_grantNext : ByteArray := prog_5_method_20_code
def yX3_grantNext : MethodName := ⟨RX3, "grantNext", "()Z"⟩
abbrev cX3_takeOver : ByteArray := prog_5_method_21_code
def yX3_takeOver : MethodName := ⟨RX3, "takeOver", "(LWishWell$Well;)V"⟩
def RX4 : String := "WishWell$Wishes"
def TX4 : u_T := fun k => match k with
  | 0 => ("WishWell$Wishes", "kinds", "LWishWell$Row;", true)
  | 1 => ("WishWell$Wishes", "coinLands", "LWishWell$Row;", true)
  | 2 => ("WishWell$Wishes", "thrownDays", "LWishWell$Row;", true)
  | 3 => ("WishWell$Wishes", "fates", "LWishWell$Row;", true)
  | 4 => ("WishWell$Wishes", "grantDays", "LWishWell$Row;", true)
  | _ => ("WishWell$Wishes", "size", "I", false)
def tyX4 : Nat → FieldType := fun k => match k with
  | 0 => .object "WishWell$Row"
  | 1 => .object "WishWell$Row"
  | 2 => .object "WishWell$Row"
  | 3 => .object "WishWell$Row"
  | 4 => .object "WishWell$Row"
  | _ => .int
abbrev wsX40 : List Cond := u_ws RX4 TX4 6
theorem nmX4 : ∀ a, a < 6 → ∀ b, b < 6 → a ≠ b → (TX4 a).2.1 ≠ (TX4 b).2.1 := by decide +kernel
theorem tyX4_ok : ∀ k, k < 6 → parseFieldDescriptor (TX4 k).2.2.1 = some (tyX4 k) := by decide +kernel
abbrev cX4_init : ByteArray := prog_6_method_1_code
def yX4_init : MethodName := ⟨RX4, "<init>", "()V"⟩
abbrev cX4_has : ByteArray := prog_6_method_2_code
def yX4_has : MethodName := ⟨RX4, "has", "(I)Z"⟩
abbrev cX4_tell : ByteArray := prog_6_method_3_code
def yX4_tell : MethodName := ⟨RX4, "tell", "(III)I"⟩
abbrev cX4_waitsFor : ByteArray := prog_6_method_4_code
def yX4_waitsFor : MethodName := ⟨RX4, "waitsFor", "(II)Z"⟩
abbrev cX4_howMany : ByteArray := prog_6_method_5_code
def yX4_howMany : MethodName := ⟨RX4, "howMany", "(I)I"⟩
abbrev cX4_meanWait : ByteArray := prog_6_method_6_code
def yX4_meanWait : MethodName := ⟨RX4, "meanWait", "()D"⟩
abbrev cX4_figure : ByteArray := prog_6_method_7_code
def yX4_figure : MethodName := ⟨RX4, "figure", "(II)I"⟩
abbrev cX4_takeOver : ByteArray := prog_6_method_8_code
def yX4_takeOver : MethodName := ⟨RX4, "takeOver", "(LWishWell$Wishes;)V"⟩
def RX5 : String := "WishWell"
def TX5 : u_T := fun k => match k with
  | 0 => ("WishWell", "well", "LWishWell$Well;", true)
  | 1 => ("WishWell", "trial", "LWishWell$Well;", true)
  | _ => ("WishWell", "fewest", "LWishWell$Row;", true)
def tyX5 : Nat → FieldType := fun k => match k with
  | 0 => .object "WishWell$Well"
  | 1 => .object "WishWell$Well"
  | _ => .object "WishWell$Row"
abbrev wsX50 : List Cond := u_ws RX5 TX5 3
theorem nmX5 : ∀ a, a < 3 → ∀ b, b < 3 → a ≠ b → (TX5 a).2.1 ≠ (TX5 b).2.1 := by decide +kernel
theorem tyX5_ok : ∀ k, k < 3 → parseFieldDescriptor (TX5 k).2.2.1 = some (tyX5 k) := by decide +kernel
abbrev cX5_init : ByteArray := prog_1_method_1_code
def yX5_init : MethodName := ⟨RX5, "<init>", "()V"⟩
abbrev cX5_addLand : ByteArray := prog_1_method_2_code
def yX5_addLand : MethodName := ⟨RX5, "addLand", "(II)I"⟩
abbrev cX5_setTide : ByteArray := prog_1_method_3_code
def yX5_setTide : MethodName := ⟨RX5, "setTide", "(II)I"⟩
abbrev cX5_wish : ByteArray := prog_1_method_4_code
def yX5_wish : MethodName := ⟨RX5, "wish", "(II)I"⟩
abbrev cX5_withdraw : ByteArray := prog_1_method_5_code
def yX5_withdraw : MethodName := ⟨RX5, "withdraw", "(I)I"⟩
abbrev cX5_fish : ByteArray := prog_1_method_6_code
def yX5_fish : MethodName := ⟨RX5, "fish", "(II)I"⟩
abbrev cX5_audit : ByteArray := prog_1_method_7_code
def yX5_audit : MethodName := ⟨RX5, "audit", "(I)I"⟩
abbrev cX5_missing : ByteArray := prog_1_method_8_code
def yX5_missing : MethodName := ⟨RX5, "missing", "(I)I"⟩
abbrev cX5_land : ByteArray := prog_1_method_9_code
def yX5_land : MethodName := ⟨RX5, "land", "(II)I"⟩
abbrev cX5_coins : ByteArray := prog_1_method_10_code
def yX5_coins : MethodName := ⟨RX5, "coins", "(II)I"⟩
abbrev cX5_told : ByteArray := prog_1_method_11_code
def yX5_told : MethodName := ⟨RX5, "told", "(II)I"⟩
abbrev cX5_count : ByteArray := prog_1_method_12_code
def yX5_count : MethodName := ⟨RX5, "count", "(I)I"⟩
abbrev cX5_pass : ByteArray := prog_1_method_13_code
def yX5_pass : MethodName := ⟨RX5, "pass", "(I)I"⟩
abbrev cX5_next : ByteArray := prog_1_method_14_code
def yX5_next : MethodName := ⟨RX5, "next", "(I)I"⟩
abbrev cX5_waits : ByteArray := prog_1_method_15_code
def yX5_waits : MethodName := ⟨RX5, "waits", "(I)I"⟩
abbrev cX5_foresee : ByteArray := prog_1_method_16_code
def yX5_foresee : MethodName := ⟨RX5, "foresee", "(II)I"⟩
abbrev cX5_richest : ByteArray := prog_1_method_17_code
def yX5_richest : MethodName := ⟨RX5, "richest", "()I"⟩
abbrev cX5_change : ByteArray := prog_1_method_18_code
def yX5_change : MethodName := ⟨RX5, "change", "(I)I"⟩
abbrev cX5_mean : ByteArray := prog_1_method_19_code
def yX5_mean : MethodName := ⟨RX5, "mean", "()D"⟩
abbrev cX5_digest : ByteArray := prog_1_method_20_code
def yX5_digest : MethodName := ⟨RX5, "digest", "()J"⟩
abbrev cX5_digestLands : ByteArray := prog_1_method_21_code
def yX5_digestLands : MethodName := ⟨RX5, "digestLands", "(J)J"⟩
abbrev cX5_digestLayers : ByteArray := prog_1_method_22_code
def yX5_digestLayers : MethodName := ⟨RX5, "digestLayers", "(J)J"⟩
abbrev cX5_digestWishes : ByteArray := prog_1_method_23_code
def yX5_digestWishes : MethodName := ⟨RX5, "digestWishes", "(J)J"⟩
abbrev cX5_daysTillGranted : ByteArray := prog_1_method_24_code
def yX5_daysTillGranted : MethodName := ⟨RX5, "daysTillGranted", "(I)I"⟩
abbrev cX5_payWithLand : ByteArray := prog_1_method_25_code
def yX5_payWithLand : MethodName := ⟨RX5, "payWithLand", "(II)V"⟩
abbrev cX5_payWithBundle : ByteArray := prog_1_method_26_code
def yX5_payWithBundle : MethodName := ⟨RX5, "payWithBundle", "(III)V"⟩
abbrev cX5_within : ByteArray := prog_1_method_27_code
def yX5_within : MethodName := ⟨RX5, "within", "(III)Z"⟩
def RX6 : String := "WishWellModel$State"
def TX6 : u_T := fun k => match k with
  | 0 => ("WishWellModel$State", "today", "I", false)
  | 1 => ("WishWellModel$State", "favour", "I", false)
  | 2 => ("WishWellModel$State", "turn", "I", false)
  | 3 => ("WishWellModel$State", "pile", "[I", true)
  | 4 => ("WishWellModel$State", "came", "[I", true)
  | 5 => ("WishWellModel$State", "how", "[I", true)
  | 6 => ("WishWellModel$State", "when", "[I", true)
  | _ => ("WishWellModel$State", "this$0", "LWishWellModel;", true)
def tyX6 : Nat → FieldType := fun k => match k with
  | 0 => .int
  | 1 => .int
  | 2 => .int
  | 3 => .array .int
  | 4 => .array .int
  | 5 => .array .int
  | 6 => .array .int
  | _ => .object "WishWellModel"
abbrev wsX60 : List Cond := u_ws RX6 TX6 8
theorem nmX6 : ∀ a, a < 8 → ∀ b, b < 8 → a ≠ b → (TX6 a).2.1 ≠ (TX6 b).2.1 := by decide +kernel
theorem tyX6_ok : ∀ k, k < 8 → parseFieldDescriptor (TX6 k).2.2.1 = some (tyX6 k) := by decide +kernel
abbrev cX6_init : ByteArray := prog_9_method_1_code
def yX6_init : MethodName := ⟨RX6, "<init>", "(LWishWellModel;)V"⟩
abbrev cX6_copy : ByteArray := prog_9_method_2_code
def yX6_copy : MethodName := ⟨RX6, "copy", "([I[I)V"⟩
abbrev cX6_become : ByteArray := prog_9_method_3_code
def yX6_become : MethodName := ⟨RX6, "become", "(LWishWellModel$State;)V"⟩
abbrev cX6_drop : ByteArray := prog_9_method_4_code
def yX6_drop : MethodName := ⟨RX6, "drop", "(I)V"⟩
abbrev cX6_next : ByteArray := prog_9_method_5_code
def yX6_next : MethodName := ⟨RX6, "next", "(I)I"⟩
abbrev cX6_pass : ByteArray := prog_9_method_6_code
def yX6_pass : MethodName := ⟨RX6, "pass", "()Z"⟩
abbrev cX6_coins : ByteArray := prog_9_method_7_code
def yX6_coins : MethodName := ⟨RX6, "coins", "(I)I"⟩
abbrev cX6_worth : ByteArray := prog_9_method_8_code
def yX6_worth : MethodName := ⟨RX6, "worth", "(I)I"⟩
abbrev cX6_allWorth : ByteArray := prog_9_method_9_code
def yX6_allWorth : MethodName := ⟨RX6, "allWorth", "()I"⟩
abbrev cX6_all : ByteArray := prog_9_method_10_code
def yX6_all : MethodName := ⟨RX6, "all", "(I)I"⟩
def RX7 : String := "WishWellModel"
def TX7 : u_T := fun k => match k with
  | 0 => ("WishWellModel", "thrown", "I", false)
  | 1 => ("WishWellModel", "lands", "I", false)
  | 2 => ("WishWellModel", "value", "[I", true)
  | 3 => ("WishWellModel", "weight", "[I", true)
  | 4 => ("WishWellModel", "tide", "[I", true)
  | 5 => ("WishWellModel", "audited", "[I", true)
  | 6 => ("WishWellModel", "back", "[I", true)
  | 7 => ("WishWellModel", "wishes", "I", false)
  | 8 => ("WishWellModel", "kind", "[I", true)
  | 9 => ("WishWellModel", "landOf", "[I", true)
  | 10 => ("WishWellModel", "day", "[I", true)
  | 11 => ("WishWellModel", "purse", "I", false)
  | 12 => ("WishWellModel", "fished", "I", false)
  | 13 => ("WishWellModel", "s", "LWishWellModel$State;", true)
  | _ => ("WishWellModel", "ahead", "LWishWellModel$State;", true)
def tyX7 : Nat → FieldType := fun k => match k with
  | 0 => .int
  | 1 => .int
  | 2 => .array .int
  | 3 => .array .int
  | 4 => .array .int
  | 5 => .array .int
  | 6 => .array .int
  | 7 => .int
  | 8 => .array .int
  | 9 => .array .int
  | 10 => .array .int
  | 11 => .int
  | 12 => .int
  | 13 => .object "WishWellModel$State"
  | _ => .object "WishWellModel$State"
abbrev wsX70 : List Cond := u_ws RX7 TX7 15
theorem nmX7 : ∀ a, a < 15 → ∀ b, b < 15 → a ≠ b → (TX7 a).2.1 ≠ (TX7 b).2.1 := by decide +kernel
theorem tyX7_ok : ∀ k, k < 15 → parseFieldDescriptor (TX7 k).2.2.1 = some (tyX7 k) := by decide +kernel
abbrev cX7_init : ByteArray := prog_8_method_1_code
def yX7_init : MethodName := ⟨RX7, "<init>", "()V"⟩
abbrev cX7_thrown : ByteArray := prog_8_method_2_code
def yX7_thrown : MethodName := ⟨RX7, "thrown", "()I"⟩
abbrev cX7_no : ByteArray := prog_8_method_3_code
def yX7_no : MethodName := ⟨RX7, "no", "(I)I"⟩
abbrev cX7_isIn : ByteArray := prog_8_method_4_code
def yX7_isIn : MethodName := ⟨RX7, "isIn", "(III)Z"⟩
abbrev cX7_isLand : ByteArray := prog_8_method_5_code
def yX7_isLand : MethodName := ⟨RX7, "isLand", "(I)Z"⟩
abbrev cX7_isWish : ByteArray := prog_8_method_6_code
def yX7_isWish : MethodName := ⟨RX7, "isWish", "(I)Z"⟩
abbrev cX7_isLayer : ByteArray := prog_8_method_7_code
def yX7_isLayer : MethodName := ⟨RX7, "isLayer", "(I)Z"⟩
abbrev cX7_addLand : ByteArray := prog_8_method_8_code
def yX7_addLand : MethodName := ⟨RX7, "addLand", "(II)I"⟩
abbrev cX7_setTide : ByteArray := prog_8_method_9_code
def yX7_setTide : MethodName := ⟨RX7, "setTide", "(II)I"⟩
abbrev cX7_wish : ByteArray := prog_8_method_10_code
def yX7_wish : MethodName := ⟨RX7, "wish", "(II)I"⟩
abbrev cX7_withdraw : ByteArray := prog_8_method_11_code
def yX7_withdraw : MethodName := ⟨RX7, "withdraw", "(I)I"⟩
abbrev cX7_fish : ByteArray := prog_8_method_12_code
def yX7_fish : MethodName := ⟨RX7, "fish", "(II)I"⟩
abbrev cX7_audit : ByteArray := prog_8_method_13_code
def yX7_audit : MethodName := ⟨RX7, "audit", "(I)I"⟩
abbrev cX7_missed : ByteArray := prog_8_method_14_code
def yX7_missed : MethodName := ⟨RX7, "missed", "(I)I"⟩
abbrev cX7_missing : ByteArray := prog_8_method_15_code
def yX7_missing : MethodName := ⟨RX7, "missing", "(I)I"⟩
abbrev cX7_landTold : ByteArray := prog_8_method_16_code
def yX7_landTold : MethodName := ⟨RX7, "landTold", "(II)I"⟩
abbrev cX7_land : ByteArray := prog_8_method_17_code
def yX7_land : MethodName := ⟨RX7, "land", "(II)I"⟩
abbrev cX7_coins : ByteArray := prog_8_method_18_code
def yX7_coins : MethodName := ⟨RX7, "coins", "(II)I"⟩
abbrev cX7_wishTold : ByteArray := prog_8_method_19_code
def yX7_wishTold : MethodName := ⟨RX7, "wishTold", "(II)I"⟩
abbrev cX7_told : ByteArray := prog_8_method_20_code
def yX7_told : MethodName := ⟨RX7, "told", "(II)I"⟩
abbrev cX7_counted : ByteArray := prog_8_method_21_code
def yX7_counted : MethodName := ⟨RX7, "counted", "(I)I"⟩
abbrev cX7_count : ByteArray := prog_8_method_22_code
def yX7_count : MethodName := ⟨RX7, "count", "(I)I"⟩
abbrev cX7_pass : ByteArray := prog_8_method_23_code
def yX7_pass : MethodName := ⟨RX7, "pass", "(I)I"⟩
abbrev cX7_next : ByteArray := prog_8_method_24_code
def yX7_next : MethodName := ⟨RX7, "next", "(I)I"⟩
abbrev cX7_waits : ByteArray := prog_8_method_25_code
def yX7_waits : MethodName := ⟨RX7, "waits", "(I)I"⟩
abbrev cX7_foresee : ByteArray := prog_8_method_26_code
def yX7_foresee : MethodName := ⟨RX7, "foresee", "(II)I"⟩
abbrev cX7_richest : ByteArray := prog_8_method_27_code
def yX7_richest : MethodName := ⟨RX7, "richest", "()I"⟩
abbrev cX7_change : ByteArray := prog_8_method_28_code
def yX7_change : MethodName := ⟨RX7, "change", "(I)I"⟩
abbrev cX7_mean : ByteArray := prog_8_method_29_code
def yX7_mean : MethodName := ⟨RX7, "mean", "()D"⟩
abbrev cX7_digest : ByteArray := prog_8_method_30_code
def yX7_digest : MethodName := ⟨RX7, "digest", "()J"⟩
def RJx145de : String := "java/io/Serializable"
def TJx145de : u_T := fun k => match k with
  | _ => ("", "", "", false)
def tyJx145de : Nat → FieldType := fun k => match k with
  | _ => .int
abbrev wsJx145de0 : List Cond := u_ws RJx145de TJx145de 0
theorem nmJx145de : ∀ a, a < 0 → ∀ b, b < 0 → a ≠ b → (TJx145de a).2.1 ≠ (TJx145de b).2.1 := by decide +kernel
theorem tyJx145de_ok : ∀ k, k < 0 → parseFieldDescriptor (TJx145de k).2.2.1 = some (tyJx145de k) := by decide +kernel
def RJ5 : String := "java/lang/AbstractStringBuilder"
def TJ5 : u_T := fun k => match k with
  | _ => ("", "", "", false)
def tyJ5 : Nat → FieldType := fun k => match k with
  | _ => .int
abbrev wsJ50 : List Cond := u_ws RJ5 TJ5 0
theorem nmJ5 : ∀ a, a < 0 → ∀ b, b < 0 → a ≠ b → (TJ5 a).2.1 ≠ (TJ5 b).2.1 := by decide +kernel
theorem tyJ5_ok : ∀ k, k < 0 → parseFieldDescriptor (TJ5 k).2.2.1 = some (tyJ5 k) := by decide +kernel
abbrev cJ5_init_d00df : ByteArray := prog_10_method_2_code
def yJ5_init_d00df : MethodName := ⟨RJ5, "<init>", "(I)V"⟩
abbrev cJ5_length_8abf5 : ByteArray := prog_10_method_6_code
def yJ5_length_8abf5 : MethodName := ⟨RJ5, "length", "()I"⟩
abbrev cJ5_ensureCapacityInternal_d00df : ByteArray := prog_10_method_9_code
def yJ5_ensureCapacityInternal_d00df : MethodName := ⟨RJ5, "ensureCapacityInternal", "(I)V"⟩
abbrev cJ5_newCapacity_0f7a4 : ByteArray := prog_10_method_10_code
def yJ5_newCapacity_0f7a4 : MethodName := ⟨RJ5, "newCapacity", "(I)I"⟩
abbrev cJ5_inflate_da8c8 : ByteArray := prog_10_method_11_code
def yJ5_inflate_da8c8 : MethodName := ⟨RJ5, "inflate", "()V"⟩
abbrev cJ5_append_cf1ce : ByteArray := prog_10_method_22_code
def yJ5_append_cf1ce : MethodName := ⟨RJ5, "append", "(Ljava/lang/String;)Ljava/lang/AbstractStringBuilder;"⟩
abbrev cJ5_appendNull_278bc : ByteArray := prog_10_method_26_code
def yJ5_appendNull_278bc : MethodName := ⟨RJ5, "appendNull", "()Ljava/lang/AbstractStringBuilder;"⟩
abbrev cJ5_append_c97b9 : ByteArray := prog_10_method_32_code
def yJ5_append_c97b9 : MethodName := ⟨RJ5, "append", "(I)Ljava/lang/AbstractStringBuilder;"⟩
abbrev cJ5_getValue_6d5f1 : ByteArray := prog_10_method_64_code
def yJ5_getValue_6d5f1 : MethodName := ⟨RJ5, "getValue", "()[B"⟩
abbrev cJ5_isLatin1_aae02 : ByteArray := prog_10_method_68_code
def yJ5_isLatin1_aae02 : MethodName := ⟨RJ5, "isLatin1", "()Z"⟩
abbrev cJ5_inflateIfNeededFor_a7421 : ByteArray := prog_10_method_71_code
def yJ5_inflateIfNeededFor_a7421 : MethodName := ⟨RJ5, "inflateIfNeededFor", "(Ljava/lang/String;)V"⟩
abbrev cJ5_putStringAt_47b60 : ByteArray := prog_10_method_73_code
def yJ5_putStringAt_47b60 : MethodName := ⟨RJ5, "putStringAt", "(ILjava/lang/String;)V"⟩
def RJx2cfe8 : String := "java/lang/Appendable"
def TJx2cfe8 : u_T := fun k => match k with
  | _ => ("", "", "", false)
def tyJx2cfe8 : Nat → FieldType := fun k => match k with
  | _ => .int
abbrev wsJx2cfe80 : List Cond := u_ws RJx2cfe8 TJx2cfe8 0
theorem nmJx2cfe8 : ∀ a, a < 0 → ∀ b, b < 0 → a ≠ b → (TJx2cfe8 a).2.1 ≠ (TJx2cfe8 b).2.1 := by decide +kernel
theorem tyJx2cfe8_ok : ∀ k, k < 0 → parseFieldDescriptor (TJx2cfe8 k).2.2.1 = some (tyJx2cfe8 k) := by decide +kernel
def RJx00060 : String := "java/lang/ArrayIndexOutOfBoundsException"
def TJx00060 : u_T := fun k => match k with
  | 0 => ("java/lang/Throwable", "cause", "Ljava/lang/Throwable;", false)
  | 1 => ("java/lang/Throwable", "stackTrace", "[Ljava/lang/StackTraceElement;", false)
  | 2 => ("java/lang/Throwable", "suppressedExceptions", "Ljava/util/List;", false)
  | 3 => ("java/lang/Throwable", "detailMessage", "Ljava/lang/String;", false)
  | 4 => ("java/lang/Throwable", "backtrace", "Ljava/lang/Object;", false)
  | _ => ("java/lang/Throwable", "depth", "I", false)
def tyJx00060 : Nat → FieldType := fun k => match k with
  | 0 => .object "java/lang/Throwable"
  | 1 => .array (.object "java/lang/StackTraceElement")
  | 2 => .object "java/util/List"
  | 3 => .object "java/lang/String"
  | 4 => .object "java/lang/Object"
  | _ => .int
abbrev wsJx000600 : List Cond := u_ws RJx00060 TJx00060 6
theorem nmJx00060 : ∀ a, a < 6 → ∀ b, b < 6 → a ≠ b → (TJx00060 a).2.1 ≠ (TJx00060 b).2.1 := by decide +kernel
theorem tyJx00060_ok : ∀ k, k < 6 → parseFieldDescriptor (TJx00060 k).2.2.1 = some (tyJx00060 k) := by decide +kernel
abbrev cJx00060_init_d00df : ByteArray := prog_11_method_3_code
def yJx00060_init_d00df : MethodName := ⟨RJx00060, "<init>", "(I)V"⟩
def RJx9f9b0 : String := "java/lang/CharSequence"
def TJx9f9b0 : u_T := fun k => match k with
  | _ => ("", "", "", false)
def tyJx9f9b0 : Nat → FieldType := fun k => match k with
  | _ => .int
abbrev wsJx9f9b00 : List Cond := u_ws RJx9f9b0 TJx9f9b0 0
theorem nmJx9f9b0 : ∀ a, a < 0 → ∀ b, b < 0 → a ≠ b → (TJx9f9b0 a).2.1 ≠ (TJx9f9b0 b).2.1 := by decide +kernel
theorem tyJx9f9b0_ok : ∀ k, k < 0 → parseFieldDescriptor (TJx9f9b0 k).2.2.1 = some (tyJx9f9b0 k) := by decide +kernel
def RJx8e188 : String := "java/lang/Cloneable"
def TJx8e188 : u_T := fun k => match k with
  | _ => ("", "", "", false)
def tyJx8e188 : Nat → FieldType := fun k => match k with
  | _ => .int
abbrev wsJx8e1880 : List Cond := u_ws RJx8e188 TJx8e188 0
theorem nmJx8e188 : ∀ a, a < 0 → ∀ b, b < 0 → a ≠ b → (TJx8e188 a).2.1 ≠ (TJx8e188 b).2.1 := by decide +kernel
theorem tyJx8e188_ok : ∀ k, k < 0 → parseFieldDescriptor (TJx8e188 k).2.2.1 = some (tyJx8e188 k) := by decide +kernel
def RJxb160c : String := "java/lang/Comparable"
def TJxb160c : u_T := fun k => match k with
  | _ => ("", "", "", false)
def tyJxb160c : Nat → FieldType := fun k => match k with
  | _ => .int
abbrev wsJxb160c0 : List Cond := u_ws RJxb160c TJxb160c 0
theorem nmJxb160c : ∀ a, a < 0 → ∀ b, b < 0 → a ≠ b → (TJxb160c a).2.1 ≠ (TJxb160c b).2.1 := by decide +kernel
theorem tyJxb160c_ok : ∀ k, k < 0 → parseFieldDescriptor (TJxb160c k).2.2.1 = some (tyJxb160c k) := by decide +kernel
def RJ6 : String := "java/lang/Integer"
def TJ6 : u_T := fun k => match k with
  | _ => ("", "", "", false)
def tyJ6 : Nat → FieldType := fun k => match k with
  | _ => .int
abbrev wsJ60 : List Cond := u_ws RJ6 TJ6 0
theorem nmJ6 : ∀ a, a < 0 → ∀ b, b < 0 → a ≠ b → (TJ6 a).2.1 ≠ (TJ6 b).2.1 := by decide +kernel
theorem tyJ6_ok : ∀ k, k < 0 → parseFieldDescriptor (TJ6 k).2.2.1 = some (tyJ6 k) := by decide +kernel
abbrev cJ6_getChars_ba4f3 : ByteArray := prog_17_method_12_code
def yJ6_getChars_ba4f3 : MethodName := ⟨RJ6, "getChars", "(II[B)I"⟩
abbrev cJ6_stringSize_0f7a4 : ByteArray := prog_17_method_13_code
def yJ6_stringSize_0f7a4 : MethodName := ⟨RJ6, "stringSize", "(I)I"⟩
def RJ9 : String := "java/lang/Math"
def TJ9 : u_T := fun k => match k with
  | _ => ("", "", "", false)
def tyJ9 : Nat → FieldType := fun k => match k with
  | _ => .int
abbrev wsJ90 : List Cond := u_ws RJ9 TJ9 0
theorem nmJ9 : ∀ a, a < 0 → ∀ b, b < 0 → a ≠ b → (TJ9 a).2.1 ≠ (TJ9 b).2.1 := by decide +kernel
theorem tyJ9_ok : ∀ k, k < 0 → parseFieldDescriptor (TJ9 k).2.2.1 = some (tyJ9 k) := by decide +kernel
abbrev cJ9_max_7cf53 : ByteArray := prog_18_method_65_code
def yJ9_max_7cf53 : MethodName := ⟨RJ9, "max", "(II)I"⟩
abbrev cJ9_min_7cf53 : ByteArray := prog_18_method_69_code
def yJ9_min_7cf53 : MethodName := ⟨RJ9, "min", "(II)I"⟩
def RJxd2413 : String := "java/lang/Number"
def TJxd2413 : u_T := fun k => match k with
  | _ => ("", "", "", false)
def tyJxd2413 : Nat → FieldType := fun k => match k with
  | _ => .int
abbrev wsJxd24130 : List Cond := u_ws RJxd2413 TJxd2413 0
theorem nmJxd2413 : ∀ a, a < 0 → ∀ b, b < 0 → a ≠ b → (TJxd2413 a).2.1 ≠ (TJxd2413 b).2.1 := by decide +kernel
theorem tyJxd2413_ok : ∀ k, k < 0 → parseFieldDescriptor (TJxd2413 k).2.2.1 = some (tyJxd2413 k) := by decide +kernel
def RJ0 : String := "java/lang/String"
def TJ0 : u_T := fun k => match k with
  | 0 => ("java/lang/String", "value", "[B", true)
  | 1 => ("java/lang/String", "coder", "B", true)
  | 2 => ("java/lang/String", "hash", "I", false)
  | _ => ("java/lang/String", "hashIsZero", "Z", false)
def tyJ0 : Nat → FieldType := fun k => match k with
  | 0 => .array .byte
  | 1 => .byte
  | 2 => .int
  | _ => .boolean
abbrev wsJ00 : List Cond := u_ws RJ0 TJ0 4
theorem nmJ0 : ∀ a, a < 4 → ∀ b, b < 4 → a ≠ b → (TJ0 a).2.1 ≠ (TJ0 b).2.1 := by decide +kernel
theorem tyJ0_ok : ∀ k, k < 4 → parseFieldDescriptor (TJ0 k).2.2.1 = some (tyJ0 k) := by decide +kernel
abbrev cJ0_init_81219 : ByteArray := prog_21_method_53_code
def yJ0_init_81219 : MethodName := ⟨RJ0, "<init>", "(Ljava/lang/StringBuilder;)V"⟩
abbrev cJ0_length_8abf5 : ByteArray := prog_21_method_54_code
def yJ0_length_8abf5 : MethodName := ⟨RJ0, "length", "()I"⟩
abbrev cJ0_getBytes_840e7 : ByteArray := prog_21_method_147_code
def yJ0_getBytes_840e7 : MethodName := ⟨RJ0, "getBytes", "([BIB)V"⟩
abbrev cJ0_init_db425 : ByteArray := prog_21_method_150_code
def yJ0_init_db425 : MethodName := ⟨RJ0, "<init>", "(Ljava/lang/AbstractStringBuilder;Ljava/lang/Void;)V"⟩
abbrev cJ0_coder_7d493 : ByteArray := prog_21_method_152_code
def yJ0_coder_7d493 : MethodName := ⟨RJ0, "coder", "()B"⟩
abbrev cJ0_checkBoundsOffCount_cabcc : ByteArray := prog_21_method_157_code
def yJ0_checkBoundsOffCount_cabcc : MethodName := ⟨RJ0, "checkBoundsOffCount", "(III)I"⟩
abbrev cJ0_checkBoundsBeginEnd_23922 : ByteArray := prog_21_method_158_code
def yJ0_checkBoundsBeginEnd_23922 : MethodName := ⟨RJ0, "checkBoundsBeginEnd", "(III)V"⟩
def RJ4 : String := "java/lang/StringBuilder"
def TJ4 : u_T := fun k => match k with
  | 0 => ("java/lang/AbstractStringBuilder", "value", "[B", false)
  | 1 => ("java/lang/AbstractStringBuilder", "coder", "B", false)
  | 2 => ("java/lang/AbstractStringBuilder", "maybeLatin1", "Z", false)
  | _ => ("java/lang/AbstractStringBuilder", "count", "I", false)
def tyJ4 : Nat → FieldType := fun k => match k with
  | 0 => .array .byte
  | 1 => .byte
  | 2 => .boolean
  | _ => .int
abbrev wsJ40 : List Cond := u_ws RJ4 TJ4 4
theorem nmJ4 : ∀ a, a < 4 → ∀ b, b < 4 → a ≠ b → (TJ4 a).2.1 ≠ (TJ4 b).2.1 := by decide +kernel
theorem tyJ4_ok : ∀ k, k < 4 → parseFieldDescriptor (TJ4 k).2.2.1 = some (tyJ4 k) := by decide +kernel
abbrev cJ4_init_da8c8 : ByteArray := prog_22_method_1_code
def yJ4_init_da8c8 : MethodName := ⟨RJ4, "<init>", "()V"⟩
abbrev cJ4_append_15ec4 : ByteArray := prog_22_method_7_code
def yJ4_append_15ec4 : MethodName := ⟨RJ4, "append", "(Ljava/lang/String;)Ljava/lang/StringBuilder;"⟩
abbrev cJ4_append_bf812 : ByteArray := prog_22_method_15_code
def yJ4_append_bf812 : MethodName := ⟨RJ4, "append", "(I)Ljava/lang/StringBuilder;"⟩
abbrev cJ4_toString_0e30d : ByteArray := prog_22_method_42_code
def yJ4_toString_0e30d : MethodName := ⟨RJ4, "toString", "()Ljava/lang/String;"⟩
abbrev cJ4_length_8abf5 : ByteArray := prog_22_method_93_code
def yJ4_length_8abf5 : MethodName := ⟨RJ4, "length", "()I"⟩
def RJ1 : String := "java/lang/StringLatin1"
def TJ1 : u_T := fun k => match k with
  | _ => ("", "", "", false)
def tyJ1 : Nat → FieldType := fun k => match k with
  | _ => .int
abbrev wsJ10 : List Cond := u_ws RJ1 TJ1 0
theorem nmJ1 : ∀ a, a < 0 → ∀ b, b < 0 → a ≠ b → (TJ1 a).2.1 ≠ (TJ1 b).2.1 := by decide +kernel
theorem tyJ1_ok : ∀ k, k < 0 → parseFieldDescriptor (TJ1 k).2.2.1 = some (tyJ1 k) := by decide +kernel
abbrev cJ1_inflate_0e8fd : ByteArray := prog_23_method_50_code
def yJ1_inflate_0e8fd : MethodName := ⟨RJ1, "inflate", "([BI[BII)V"⟩
def RJ2 : String := "java/lang/StringUTF16"
def TJ2 : u_T := fun k => match k with
  | _ => ("", "", "", false)
def tyJ2 : Nat → FieldType := fun k => match k with
  | _ => .int
abbrev wsJ20 : List Cond := u_ws RJ2 TJ2 0
theorem nmJ2 : ∀ a, a < 0 → ∀ b, b < 0 → a ≠ b → (TJ2 a).2.1 ≠ (TJ2 b).2.1 := by decide +kernel
theorem tyJ2_ok : ∀ k, k < 0 → parseFieldDescriptor (TJ2 k).2.2.1 = some (tyJ2 k) := by decide +kernel
abbrev cJ2_newBytesFor_77867 : ByteArray := prog_24_method_2_code
def yJ2_newBytesFor_77867 : MethodName := ⟨RJ2, "newBytesFor", "(I)[B"⟩
abbrev cJ2_newBytesLength_0f7a4 : ByteArray := prog_24_method_3_code
def yJ2_newBytesLength_0f7a4 : MethodName := ⟨RJ2, "newBytesLength", "(I)I"⟩
abbrev cJ2_putChar_b72d1 : ByteArray := prog_24_method_4_code
def yJ2_putChar_b72d1 : MethodName := ⟨RJ2, "putChar", "([BII)V"⟩
abbrev cJ2_getChar_3b067 : ByteArray := prog_24_method_5_code
def yJ2_getChar_3b067 : MethodName := ⟨RJ2, "getChar", "([BI)C"⟩
abbrev cJ2_length_9d52b : ByteArray := prog_24_method_6_code
def yJ2_length_9d52b : MethodName := ⟨RJ2, "length", "([B)I"⟩
abbrev cJ2_coderFromArrayLen_85cad : ByteArray := prog_24_method_15_code
def yJ2_coderFromArrayLen_85cad : MethodName := ⟨RJ2, "coderFromArrayLen", "([BI)B"⟩
abbrev cJ2_compress_39247 : ByteArray := prog_24_method_17_code
def yJ2_compress_39247 : MethodName := ⟨RJ2, "compress", "([BII)[B"⟩
abbrev cJ2_compress_5af95 : ByteArray := prog_24_method_22_code
def yJ2_compress_5af95 : MethodName := ⟨RJ2, "compress", "([BI[BII)I"⟩
abbrev cJ2_getChars_46870 : ByteArray := prog_24_method_77_code
def yJ2_getChars_46870 : MethodName := ⟨RJ2, "getChars", "(III[B)I"⟩
abbrev cJ2_putCharsAt_cd4e5 : ByteArray := prog_24_method_81_code
def yJ2_putCharsAt_cd4e5 : MethodName := ⟨RJ2, "putCharsAt", "([BICCCC)I"⟩
abbrev cJ2_inflate_0e8fd : ByteArray := prog_24_method_86_code
def yJ2_inflate_0e8fd : MethodName := ⟨RJ2, "inflate", "([BI[BII)V"⟩
abbrev cJ2_getChars_ba4f3 : ByteArray := prog_24_method_89_code
def yJ2_getChars_ba4f3 : MethodName := ⟨RJ2, "getChars", "(II[B)I"⟩
abbrev cJ2_checkBoundsBeginEnd_d044e : ByteArray := prog_24_method_93_code
def yJ2_checkBoundsBeginEnd_d044e : MethodName := ⟨RJ2, "checkBoundsBeginEnd", "(II[B)V"⟩
abbrev cJ2_checkBoundsOffCount_d044e : ByteArray := prog_24_method_94_code
def yJ2_checkBoundsOffCount_d044e : MethodName := ⟨RJ2, "checkBoundsOffCount", "(II[B)V"⟩
def RJ10 : String := "java/lang/System"
def TJ10 : u_T := fun k => match k with
  | _ => ("", "", "", false)
def tyJ10 : Nat → FieldType := fun k => match k with
  | _ => .int
abbrev wsJ100 : List Cond := u_ws RJ10 TJ10 0
theorem nmJ10 : ∀ a, a < 0 → ∀ b, b < 0 → a ≠ b → (TJ10 a).2.1 ≠ (TJ10 b).2.1 := by decide +kernel
theorem tyJ10_ok : ∀ k, k < 0 → parseFieldDescriptor (TJ10 k).2.2.1 = some (tyJ10 k) := by decide +kernel
def RJxfd54e : String := "java/lang/constant/Constable"
def TJxfd54e : u_T := fun k => match k with
  | _ => ("", "", "", false)
def tyJxfd54e : Nat → FieldType := fun k => match k with
  | _ => .int
abbrev wsJxfd54e0 : List Cond := u_ws RJxfd54e TJxfd54e 0
theorem nmJxfd54e : ∀ a, a < 0 → ∀ b, b < 0 → a ≠ b → (TJxfd54e a).2.1 ≠ (TJxfd54e b).2.1 := by decide +kernel
theorem tyJxfd54e_ok : ∀ k, k < 0 → parseFieldDescriptor (TJxfd54e k).2.2.1 = some (tyJxfd54e k) := by decide +kernel
def RJx3cf43 : String := "java/lang/constant/ConstantDesc"
def TJx3cf43 : u_T := fun k => match k with
  | _ => ("", "", "", false)
def tyJx3cf43 : Nat → FieldType := fun k => match k with
  | _ => .int
abbrev wsJx3cf430 : List Cond := u_ws RJx3cf43 TJx3cf43 0
theorem nmJx3cf43 : ∀ a, a < 0 → ∀ b, b < 0 → a ≠ b → (TJx3cf43 a).2.1 ≠ (TJx3cf43 b).2.1 := by decide +kernel
theorem tyJx3cf43_ok : ∀ k, k < 0 → parseFieldDescriptor (TJx3cf43 k).2.2.1 = some (tyJx3cf43 k) := by decide +kernel
def RJ7 : String := "java/util/Arrays"
def TJ7 : u_T := fun k => match k with
  | _ => ("", "", "", false)
def tyJ7 : Nat → FieldType := fun k => match k with
  | _ => .int
abbrev wsJ70 : List Cond := u_ws RJ7 TJ7 0
theorem nmJ7 : ∀ a, a < 0 → ∀ b, b < 0 → a ≠ b → (TJ7 a).2.1 ≠ (TJ7 b).2.1 := by decide +kernel
theorem tyJ7_ok : ∀ k, k < 0 → parseFieldDescriptor (TJ7 k).2.2.1 = some (tyJ7 k) := by decide +kernel
abbrev cJ7_rangeCheck_23922 : ByteArray := prog_27_method_30_code
def yJ7_rangeCheck_23922 : MethodName := ⟨RJ7, "rangeCheck", "(III)V"⟩
abbrev cJ7_fill_fda19 : ByteArray := prog_27_method_104_code
def yJ7_fill_fda19 : MethodName := ⟨RJ7, "fill", "([IIII)V"⟩
abbrev cJ7_copyOf_9075b : ByteArray := prog_27_method_121_code
def yJ7_copyOf_9075b : MethodName := ⟨RJ7, "copyOf", "([BI)[B"⟩
abbrev cJ7_checkLength_df160 : ByteArray := prog_27_method_131_code
def yJ7_checkLength_df160 : MethodName := ⟨RJ7, "checkLength", "(II)V"⟩
abbrev cJ7_copyOfRange_39247 : ByteArray := prog_27_method_132_code
def yJ7_copyOfRange_39247 : MethodName := ⟨RJ7, "copyOfRange", "([BII)[B"⟩
abbrev cJ7_copyOfRangeByte_39247 : ByteArray := prog_27_method_133_code
def yJ7_copyOfRangeByte_39247 : MethodName := ⟨RJ7, "copyOfRangeByte", "([BII)[B"⟩
def RJ8 : String := "jdk/internal/util/ArraysSupport"
def TJ8 : u_T := fun k => match k with
  | _ => ("", "", "", false)
def tyJ8 : Nat → FieldType := fun k => match k with
  | _ => .int
abbrev wsJ80 : List Cond := u_ws RJ8 TJ8 0
theorem nmJ8 : ∀ a, a < 0 → ∀ b, b < 0 → a ≠ b → (TJ8 a).2.1 ≠ (TJ8 b).2.1 := by decide +kernel
theorem tyJ8_ok : ∀ k, k < 0 → parseFieldDescriptor (TJ8 k).2.2.1 = some (tyJ8 k) := by decide +kernel
abbrev cJ8_newLength_cabcc : ByteArray := prog_28_method_27_code
def yJ8_newLength_cabcc : MethodName := ⟨RJ8, "newLength", "(III)I"⟩
abbrev cJ8_hugeLength_7cf53 : ByteArray := prog_28_method_28_code
def yJ8_hugeLength_7cf53 : MethodName := ⟨RJ8, "hugeLength", "(II)I"⟩
def RJ3 : String := "jdk/internal/util/Preconditions"
def TJ3 : u_T := fun k => match k with
  | _ => ("", "", "", false)
def tyJ3 : Nat → FieldType := fun k => match k with
  | _ => .int
abbrev wsJ30 : List Cond := u_ws RJ3 TJ3 0
theorem nmJ3 : ∀ a, a < 0 → ∀ b, b < 0 → a ≠ b → (TJ3 a).2.1 ≠ (TJ3 b).2.1 := by decide +kernel
theorem tyJ3_ok : ∀ k, k < 0 → parseFieldDescriptor (TJ3 k).2.2.1 = some (tyJ3 k) := by decide +kernel
abbrev cJ3_checkFromToIndex_8c36e : ByteArray := prog_29_method_12_code
def yJ3_checkFromToIndex_8c36e : MethodName := ⟨RJ3, "checkFromToIndex", "(IIILjava/util/function/BiFunction;)I"⟩
abbrev cJ3_checkFromIndexSize_8c36e : ByteArray := prog_29_method_13_code
def yJ3_checkFromIndexSize_8c36e : MethodName := ⟨RJ3, "checkFromIndexSize", "(IIILjava/util/function/BiFunction;)I"⟩
def RL : String := "WishWellLaw"
abbrev cL_addLand : ByteArray := method_3_code
def yL_addLand : MethodName := ⟨RL, "addLand", "(LWishWell;II[J)I"⟩
abbrev cL_setTide : ByteArray := method_4_code
def yL_setTide : MethodName := ⟨RL, "setTide", "(LWishWell;II[J)I"⟩
abbrev cL_wish : ByteArray := method_5_code
def yL_wish : MethodName := ⟨RL, "wish", "(LWishWell;II[J)I"⟩
abbrev cL_withdraw : ByteArray := method_6_code
def yL_withdraw : MethodName := ⟨RL, "withdraw", "(LWishWell;I[J)I"⟩
abbrev cL_fish : ByteArray := method_7_code
def yL_fish : MethodName := ⟨RL, "fish", "(LWishWell;II[J)I"⟩
abbrev cL_audit : ByteArray := method_8_code
def yL_audit : MethodName := ⟨RL, "audit", "(LWishWell;I[J)I"⟩
abbrev cL_missing : ByteArray := method_9_code
def yL_missing : MethodName := ⟨RL, "missing", "(LWishWell;I[J)I"⟩
abbrev cL_land : ByteArray := method_10_code
def yL_land : MethodName := ⟨RL, "land", "(LWishWell;II[J)I"⟩
abbrev cL_coins : ByteArray := method_11_code
def yL_coins : MethodName := ⟨RL, "coins", "(LWishWell;II[J)I"⟩
abbrev cL_told : ByteArray := method_12_code
def yL_told : MethodName := ⟨RL, "told", "(LWishWell;II[J)I"⟩
abbrev cL_count : ByteArray := method_13_code
def yL_count : MethodName := ⟨RL, "count", "(LWishWell;I[J)I"⟩
abbrev cL_pass : ByteArray := method_14_code
def yL_pass : MethodName := ⟨RL, "pass", "(LWishWell;I[J)I"⟩
abbrev cL_next : ByteArray := method_15_code
def yL_next : MethodName := ⟨RL, "next", "(LWishWell;I[J)I"⟩
abbrev cL_waits : ByteArray := method_16_code
def yL_waits : MethodName := ⟨RL, "waits", "(LWishWell;I[J)I"⟩
abbrev cL_foresee : ByteArray := method_17_code
def yL_foresee : MethodName := ⟨RL, "foresee", "(LWishWell;II[J)I"⟩
abbrev cL_change : ByteArray := method_18_code
def yL_change : MethodName := ⟨RL, "change", "(LWishWell;I[J)I"⟩
abbrev cL_law : ByteArray := code
def yL_law : MethodName := ⟨RL, "law", "([I)Z"⟩
def wsX2_init : List Cond := .code yX2_init cX2_init 2 none :: ([.methodLink RX2 1 objectInit, .instanceMethod objectInit, .code objectInit ⟨#[0xb1]⟩ 1 none, .arrayClass .int, .fieldLink RX2 7 "WishWell$Row" "cells" "[I"] ++ wsX20)
def wsX0_init : List Cond := .code yX0_init cX0_init 1 none :: ([.methodLink RX0 3 objectInit, .instanceMethod objectInit, .code objectInit ⟨#[0xb1]⟩ 1 none, .classLink RX0 9 RX2, .instantiable RX2 1, .initialized RX2, .fieldLink RX0 14 "WishWell$Lands" "values" "LWishWell$Row;", .fieldLink RX0 20 "WishWell$Lands" "weights" "LWishWell$Row;", .fieldLink RX0 23 "WishWell$Lands" "thrown" "LWishWell$Row;", .fieldLink RX0 26 "WishWell$Lands" "audited" "LWishWell$Row;", .fieldLink RX0 29 "WishWell$Lands" "takenBack" "LWishWell$Row;", .methodLink RX0 11 yX2_init, .instanceMethod yX2_init, .code yX2_init cX2_init 2 none, .methodLink RX2 1 objectInit, .arrayClass .int, .fieldLink RX2 7 "WishWell$Row" "cells" "[I"] ++ wsX20 ++ wsX00)
def wsX0_has : List Cond := .code yX0_has cX0_has 2 (some .boolean) :: ([.fieldLink RX0 32 "WishWell$Lands" "size" "I"] ++ wsX00)
def wsX2_put : List Cond := .code yX2_put cX2_put 3 none :: ([.fieldLink RX2 7 "WishWell$Row" "cells" "[I"] ++ wsX20 ++ (vx_atM "java/lang/ArrayIndexOutOfBoundsException" ["java/lang/IndexOutOfBoundsException", "java/lang/RuntimeException", "java/lang/Exception"]).filter goodWord)
def wsX0_tell : List Cond := .code yX0_tell cX0_tell 4 (some .int) :: ([.fieldLink RX0 32 "WishWell$Lands" "size" "I", .fieldLink RX0 14 "WishWell$Lands" "values" "LWishWell$Row;", .fieldLink RX0 20 "WishWell$Lands" "weights" "LWishWell$Row;", .methodLink RX0 36 yX2_put, .instanceMethod yX2_put, .selects RX2 yX2_put yX2_put, .initialized RX2, .code yX2_put cX2_put 3 none, .fieldLink RX2 7 "WishWell$Row" "cells" "[I"] ++ wsX00 ++ wsX20 ++ (vx_atM "java/lang/ArrayIndexOutOfBoundsException" ["java/lang/IndexOutOfBoundsException", "java/lang/RuntimeException", "java/lang/Exception"]).filter goodWord)
def wsX2_takeOver : List Cond := .code yX2_takeOver cX2_takeOver 2 none :: ([.fieldLink RX2 7 "WishWell$Row" "cells" "[I", .methodLink RX2 13 Lib.Math.min.name, .static Lib.Math.min.name, .initialized "java/lang/Math", .code Lib.Math.min.name Lib.Math.min.code 2 (some .int), .methodLink RX2 19 arraycopyName, .native arraycopyName, .static arraycopyName, .initialized "java/lang/System"] ++ wsX20)
def wsX0_takeOver : List Cond := .code yX0_takeOver cX0_takeOver 2 none :: ([.fieldLink RX0 14 "WishWell$Lands" "values" "LWishWell$Row;", .fieldLink RX0 20 "WishWell$Lands" "weights" "LWishWell$Row;", .fieldLink RX0 23 "WishWell$Lands" "thrown" "LWishWell$Row;", .fieldLink RX0 26 "WishWell$Lands" "audited" "LWishWell$Row;", .fieldLink RX0 29 "WishWell$Lands" "takenBack" "LWishWell$Row;", .fieldLink RX0 32 "WishWell$Lands" "size" "I", .methodLink RX0 40 yX2_takeOver, .instanceMethod yX2_takeOver, .selects RX2 yX2_takeOver yX2_takeOver, .initialized RX2, .code yX2_takeOver cX2_takeOver 2 none, .fieldLink RX2 7 "WishWell$Row" "cells" "[I", .methodLink RX2 13 Lib.Math.min.name, .static Lib.Math.min.name, .initialized "java/lang/Math", .code Lib.Math.min.name Lib.Math.min.code 2 (some .int), .methodLink RX2 19 arraycopyName, .native arraycopyName, .static arraycopyName, .initialized "java/lang/System"] ++ wsX00 ++ wsX20)
def wsX1_init : List Cond := .code yX1_init cX1_init 1 none :: ([.methodLink RX1 3 objectInit, .instanceMethod objectInit, .code objectInit ⟨#[0xb1]⟩ 1 none, .classLink RX1 9 RX2, .instantiable RX2 1, .initialized RX2, .fieldLink RX1 14 "WishWell$Layers" "cells" "LWishWell$Row;", .methodLink RX1 11 yX2_init, .instanceMethod yX2_init, .code yX2_init cX2_init 2 none, .methodLink RX2 1 objectInit, .arrayClass .int, .fieldLink RX2 7 "WishWell$Row" "cells" "[I"] ++ wsX20 ++ wsX10)
def wsX1_place : List Cond := .code yX1_place cX1_place 3 (some .int) :: ([])
def wsX2_at : List Cond := .code yX2_at cX2_at 2 (some .int) :: ([.fieldLink RX2 7 "WishWell$Row" "cells" "[I"] ++ wsX20 ++ (vx_atM "java/lang/ArrayIndexOutOfBoundsException" ["java/lang/IndexOutOfBoundsException", "java/lang/RuntimeException", "java/lang/Exception"]).filter goodWord)
def wsX1_at : List Cond := .code yX1_at cX1_at 3 (some .int) :: ([.fieldLink RX1 14 "WishWell$Layers" "cells" "LWishWell$Row;", .methodLink RX1 20 yX1_place, .static yX1_place, .initialized RX1, .code yX1_place cX1_place 3 (some .int), .methodLink RX1 24 yX2_at, .instanceMethod yX2_at, .selects RX2 yX2_at yX2_at, .initialized RX2, .code yX2_at cX2_at 2 (some .int), .fieldLink RX2 7 "WishWell$Row" "cells" "[I"] ++ wsX10 ++ wsX20 ++ (vx_atM "java/lang/ArrayIndexOutOfBoundsException" ["java/lang/IndexOutOfBoundsException", "java/lang/RuntimeException", "java/lang/Exception"]).filter goodWord)
def wsX2_add : List Cond := .code yX2_add cX2_add 3 none :: ([.fieldLink RX2 7 "WishWell$Row" "cells" "[I"] ++ wsX20 ++ (vx_atM "java/lang/ArrayIndexOutOfBoundsException" ["java/lang/IndexOutOfBoundsException", "java/lang/RuntimeException", "java/lang/Exception"]).filter goodWord)
def wsX1_add : List Cond := .code yX1_add cX1_add 4 none :: ([.fieldLink RX1 14 "WishWell$Layers" "cells" "LWishWell$Row;", .methodLink RX1 20 yX1_place, .static yX1_place, .initialized RX1, .code yX1_place cX1_place 3 (some .int), .methodLink RX1 28 yX2_add, .instanceMethod yX2_add, .selects RX2 yX2_add yX2_add, .initialized RX2, .code yX2_add cX2_add 3 none, .fieldLink RX2 7 "WishWell$Row" "cells" "[I"] ++ wsX10 ++ wsX20 ++ (vx_atM "java/lang/ArrayIndexOutOfBoundsException" ["java/lang/IndexOutOfBoundsException", "java/lang/RuntimeException", "java/lang/Exception"]).filter goodWord)
def wsX1_coinsIn : List Cond := .code yX1_coinsIn cX1_coinsIn 4 (some .int) :: ([.methodLink RX1 32 yX1_at, .instanceMethod yX1_at, .selects RX1 yX1_at yX1_at, .initialized RX1, .code yX1_at cX1_at 3 (some .int), .fieldLink RX1 14 "WishWell$Layers" "cells" "LWishWell$Row;", .methodLink RX1 20 yX1_place, .static yX1_place, .code yX1_place cX1_place 3 (some .int), .methodLink RX1 24 yX2_at, .instanceMethod yX2_at, .selects RX2 yX2_at yX2_at, .initialized RX2, .code yX2_at cX2_at 2 (some .int), .fieldLink RX2 7 "WishWell$Row" "cells" "[I"] ++ wsX10 ++ wsX20 ++ (vx_atM "java/lang/ArrayIndexOutOfBoundsException" ["java/lang/IndexOutOfBoundsException", "java/lang/RuntimeException", "java/lang/Exception"]).filter goodWord)
def wsX1_coinsOf : List Cond := .code yX1_coinsOf cX1_coinsOf 4 (some .int) :: ([.methodLink RX1 32 yX1_at, .instanceMethod yX1_at, .selects RX1 yX1_at yX1_at, .initialized RX1, .code yX1_at cX1_at 3 (some .int), .fieldLink RX1 14 "WishWell$Layers" "cells" "LWishWell$Row;", .methodLink RX1 20 yX1_place, .static yX1_place, .code yX1_place cX1_place 3 (some .int), .methodLink RX1 24 yX2_at, .instanceMethod yX2_at, .selects RX2 yX2_at yX2_at, .initialized RX2, .code yX2_at cX2_at 2 (some .int), .fieldLink RX2 7 "WishWell$Row" "cells" "[I"] ++ wsX10 ++ wsX20 ++ (vx_atM "java/lang/ArrayIndexOutOfBoundsException" ["java/lang/IndexOutOfBoundsException", "java/lang/RuntimeException", "java/lang/Exception"]).filter goodWord)
def wsX1_uppermostOf : List Cond := .code yX1_uppermostOf cX1_uppermostOf 3 (some .int) :: ([.methodLink RX1 32 yX1_at, .instanceMethod yX1_at, .selects RX1 yX1_at yX1_at, .initialized RX1, .code yX1_at cX1_at 3 (some .int), .fieldLink RX1 14 "WishWell$Layers" "cells" "LWishWell$Row;", .methodLink RX1 20 yX1_place, .static yX1_place, .code yX1_place cX1_place 3 (some .int), .methodLink RX1 24 yX2_at, .instanceMethod yX2_at, .selects RX2 yX2_at yX2_at, .initialized RX2, .code yX2_at cX2_at 2 (some .int), .fieldLink RX2 7 "WishWell$Row" "cells" "[I"] ++ wsX10 ++ wsX20 ++ (vx_atM "java/lang/ArrayIndexOutOfBoundsException" ["java/lang/IndexOutOfBoundsException", "java/lang/RuntimeException", "java/lang/Exception"]).filter goodWord)
def wsX1_takeOver : List Cond := .code yX1_takeOver cX1_takeOver 2 none :: ([.fieldLink RX1 14 "WishWell$Layers" "cells" "LWishWell$Row;", .methodLink RX1 34 yX2_takeOver, .instanceMethod yX2_takeOver, .selects RX2 yX2_takeOver yX2_takeOver, .initialized RX2, .code yX2_takeOver cX2_takeOver 2 none, .fieldLink RX2 7 "WishWell$Row" "cells" "[I", .methodLink RX2 13 Lib.Math.min.name, .static Lib.Math.min.name, .initialized "java/lang/Math", .code Lib.Math.min.name Lib.Math.min.code 2 (some .int), .methodLink RX2 19 arraycopyName, .native arraycopyName, .static arraycopyName, .initialized "java/lang/System"] ++ wsX10 ++ wsX20)
def wsX4_init : List Cond := .code yX4_init cX4_init 1 none :: ([.methodLink RX4 3 objectInit, .instanceMethod objectInit, .code objectInit ⟨#[0xb1]⟩ 1 none, .classLink RX4 9 RX2, .instantiable RX2 1, .initialized RX2, .fieldLink RX4 14 "WishWell$Wishes" "kinds" "LWishWell$Row;", .fieldLink RX4 20 "WishWell$Wishes" "coinLands" "LWishWell$Row;", .fieldLink RX4 23 "WishWell$Wishes" "thrownDays" "LWishWell$Row;", .fieldLink RX4 26 "WishWell$Wishes" "fates" "LWishWell$Row;", .fieldLink RX4 29 "WishWell$Wishes" "grantDays" "LWishWell$Row;", .methodLink RX4 11 yX2_init, .instanceMethod yX2_init, .code yX2_init cX2_init 2 none, .methodLink RX2 1 objectInit, .arrayClass .int, .fieldLink RX2 7 "WishWell$Row" "cells" "[I"] ++ wsX20 ++ wsX40)
def wsX3_init_r1 : List Cond := [Cond.methodLink RX3 3 objectInit, Cond.instanceMethod objectInit, Cond.code objectInit ⟨#[0xb1]⟩ 1 none, Cond.classLink RX3 9 RX0, Cond.instantiable RX0 6, Cond.initialized RX0, Cond.fieldLink RX3 12 "WishWell$Well" "lands" "LWishWell$Lands;", Cond.classLink RX3 18 RX4, Cond.instantiable RX4 6, Cond.initialized RX4, Cond.fieldLink RX3 21 "WishWell$Well" "wishes" "LWishWell$Wishes;", Cond.classLink RX3 25 RX1, Cond.instantiable RX1 1, Cond.initialized RX1, Cond.fieldLink RX3 28 "WishWell$Well" "layers" "LWishWell$Layers;", Cond.classLink RX3 32 RX2, Cond.instantiable RX2 1, Cond.initialized RX2, Cond.fieldLink RX3 37 "WishWell$Well" "tide" "LWishWell$Row;", Cond.fieldLink RX3 41 "WishWell$Well" "favour" "I", Cond.instanceMethod yX0_init, Cond.code yX0_init cX0_init 1 none, Cond.methodLink RX0 3 objectInit, Cond.classLink RX0 9 RX2]
def wsX3_init_r2 : List Cond := [Cond.fieldLink RX0 14 "WishWell$Lands" "values" "LWishWell$Row;", Cond.fieldLink RX0 20 "WishWell$Lands" "weights" "LWishWell$Row;", Cond.fieldLink RX0 23 "WishWell$Lands" "thrown" "LWishWell$Row;", Cond.fieldLink RX0 26 "WishWell$Lands" "audited" "LWishWell$Row;", Cond.fieldLink RX0 29 "WishWell$Lands" "takenBack" "LWishWell$Row;", Cond.methodLink RX0 11 yX2_init, Cond.instanceMethod yX2_init, Cond.code yX2_init cX2_init 2 none, Cond.methodLink RX2 1 objectInit, Cond.arrayClass .int, Cond.fieldLink RX2 7 "WishWell$Row" "cells" "[I", Cond.instanceMethod yX4_init, Cond.code yX4_init cX4_init 1 none, Cond.methodLink RX4 3 objectInit, Cond.classLink RX4 9 RX2, Cond.fieldLink RX4 14 "WishWell$Wishes" "kinds" "LWishWell$Row;", Cond.fieldLink RX4 20 "WishWell$Wishes" "coinLands" "LWishWell$Row;", Cond.fieldLink RX4 23 "WishWell$Wishes" "thrownDays" "LWishWell$Row;", Cond.fieldLink RX4 26 "WishWell$Wishes" "fates" "LWishWell$Row;", Cond.fieldLink RX4 29 "WishWell$Wishes" "grantDays" "LWishWell$Row;", Cond.methodLink RX4 11 yX2_init, Cond.instanceMethod yX1_init, Cond.code yX1_init cX1_init 1 none, Cond.methodLink RX1 3 objectInit]
def wsX3_init_r3 : List Cond := [Cond.classLink RX1 9 RX2, Cond.fieldLink RX1 14 "WishWell$Layers" "cells" "LWishWell$Row;", Cond.methodLink RX1 11 yX2_init, Cond.methodLink RX3 34 yX2_init]
def wsX3_init : List Cond := .code yX3_init cX3_init 1 none :: ((wsX3_init_r1 ++ (wsX3_init_r2 ++ wsX3_init_r3)) ++ wsX00 ++ wsX30 ++ wsX40 ++ wsX10 ++ wsX20)
def wsX3_raiseFavour : List Cond := .code yX3_raiseFavour cX3_raiseFavour 2 none :: ([.fieldLink RX3 41 "WishWell$Well" "favour" "I", .methodLink RX3 65 Lib.Math.min.name, .static Lib.Math.min.name, .initialized "java/lang/Math", .code Lib.Math.min.name Lib.Math.min.code 2 (some .int)] ++ wsX30)
def wsX3_throwCoin_r1 : List Cond := [Cond.fieldLink RX3 28 "WishWell$Well" "layers" "LWishWell$Layers;", Cond.fieldLink RX3 12 "WishWell$Well" "lands" "LWishWell$Lands;", Cond.fieldLink RX3 49 "WishWell$Lands" "thrown" "LWishWell$Row;", Cond.fieldLink RX3 55 "WishWell$Lands" "values" "LWishWell$Row;", Cond.methodLink RX3 45 yX1_add, Cond.instanceMethod yX1_add, Cond.selects RX1 yX1_add yX1_add, Cond.initialized RX1, Cond.code yX1_add cX1_add 4 none, Cond.fieldLink RX1 14 "WishWell$Layers" "cells" "LWishWell$Row;", Cond.methodLink RX1 20 yX1_place, Cond.static yX1_place, Cond.code yX1_place cX1_place 3 (some .int), Cond.methodLink RX1 28 yX2_add, Cond.instanceMethod yX2_add, Cond.selects RX2 yX2_add yX2_add, Cond.initialized RX2, Cond.code yX2_add cX2_add 3 none, Cond.fieldLink RX2 7 "WishWell$Row" "cells" "[I", Cond.methodLink RX3 52 yX2_add, Cond.methodLink RX3 58 yX2_at, Cond.instanceMethod yX2_at, Cond.selects RX2 yX2_at yX2_at, Cond.code yX2_at cX2_at 2 (some .int)]
def wsX3_throwCoin_r2 : List Cond := [Cond.methodLink RX3 62 yX3_raiseFavour, Cond.instanceMethod yX3_raiseFavour, Cond.selects RX3 yX3_raiseFavour yX3_raiseFavour, Cond.initialized RX3, Cond.code yX3_raiseFavour cX3_raiseFavour 2 none, Cond.fieldLink RX3 41 "WishWell$Well" "favour" "I", Cond.methodLink RX3 65 Lib.Math.min.name, Cond.static Lib.Math.min.name, Cond.initialized "java/lang/Math", Cond.code Lib.Math.min.name Lib.Math.min.code 2 (some .int)]
def wsX3_throwCoin : List Cond := .code yX3_throwCoin cX3_throwCoin 2 none :: ((wsX3_throwCoin_r1 ++ wsX3_throwCoin_r2) ++ wsX30 ++ wsX00 ++ wsX10 ++ wsX20 ++ (vx_atM "java/lang/ArrayIndexOutOfBoundsException" ["java/lang/IndexOutOfBoundsException", "java/lang/RuntimeException", "java/lang/Exception"]).filter goodWord)
def wsX3_withdrawWish_r1 : List Cond := [Cond.fieldLink RX3 21 "WishWell$Well" "wishes" "LWishWell$Wishes;", Cond.fieldLink RX3 71 "WishWell$Wishes" "coinLands" "LWishWell$Row;", Cond.fieldLink RX3 28 "WishWell$Well" "layers" "LWishWell$Layers;", Cond.fieldLink RX3 12 "WishWell$Well" "lands" "LWishWell$Lands;", Cond.fieldLink RX3 77 "WishWell$Lands" "takenBack" "LWishWell$Row;", Cond.fieldLink RX3 80 "WishWell$Wishes" "fates" "LWishWell$Row;", Cond.fieldLink RX3 41 "WishWell$Well" "favour" "I", Cond.methodLink RX3 86 Lib.Math.max.name, Cond.static Lib.Math.max.name, Cond.initialized "java/lang/Math", Cond.code Lib.Math.max.name Lib.Math.max.code 2 (some .int), Cond.methodLink RX3 58 yX2_at, Cond.instanceMethod yX2_at, Cond.selects RX2 yX2_at yX2_at, Cond.initialized RX2, Cond.code yX2_at cX2_at 2 (some .int), Cond.fieldLink RX2 7 "WishWell$Row" "cells" "[I", Cond.methodLink RX3 74 yX1_uppermostOf, Cond.instanceMethod yX1_uppermostOf, Cond.selects RX1 yX1_uppermostOf yX1_uppermostOf, Cond.initialized RX1, Cond.code yX1_uppermostOf cX1_uppermostOf 3 (some .int), Cond.methodLink RX1 32 yX1_at, Cond.instanceMethod yX1_at]
def wsX3_withdrawWish_r2 : List Cond := [Cond.selects RX1 yX1_at yX1_at, Cond.code yX1_at cX1_at 3 (some .int), Cond.fieldLink RX1 14 "WishWell$Layers" "cells" "LWishWell$Row;", Cond.methodLink RX1 20 yX1_place, Cond.static yX1_place, Cond.code yX1_place cX1_place 3 (some .int), Cond.methodLink RX1 24 yX2_at, Cond.methodLink RX3 45 yX1_add, Cond.instanceMethod yX1_add, Cond.selects RX1 yX1_add yX1_add, Cond.code yX1_add cX1_add 4 none, Cond.methodLink RX1 28 yX2_add, Cond.instanceMethod yX2_add, Cond.selects RX2 yX2_add yX2_add, Cond.code yX2_add cX2_add 3 none, Cond.methodLink RX3 52 yX2_add, Cond.methodLink RX3 83 yX2_put, Cond.instanceMethod yX2_put, Cond.selects RX2 yX2_put yX2_put, Cond.code yX2_put cX2_put 3 none]
def wsX3_withdrawWish : List Cond := .code yX3_withdrawWish cX3_withdrawWish 4 (some .int) :: ((wsX3_withdrawWish_r1 ++ wsX3_withdrawWish_r2) ++ wsX30 ++ wsX40 ++ wsX00 ++ wsX20 ++ wsX10 ++ (vx_atM "java/lang/ArrayIndexOutOfBoundsException" ["java/lang/IndexOutOfBoundsException", "java/lang/RuntimeException", "java/lang/Exception"]).filter goodWord)
def wsX3_dearestIn : List Cond := .code yX3_dearestIn cX3_dearestIn 5 (some .int) :: ([.fieldLink RX3 12 "WishWell$Well" "lands" "LWishWell$Lands;", .fieldLink RX3 95 "WishWell$Lands" "size" "I", .fieldLink RX3 28 "WishWell$Well" "layers" "LWishWell$Layers;", .fieldLink RX3 55 "WishWell$Lands" "values" "LWishWell$Row;", .methodLink RX3 98 yX1_at, .instanceMethod yX1_at, .selects RX1 yX1_at yX1_at, .initialized RX1, .code yX1_at cX1_at 3 (some .int), .fieldLink RX1 14 "WishWell$Layers" "cells" "LWishWell$Row;", .methodLink RX1 20 yX1_place, .static yX1_place, .code yX1_place cX1_place 3 (some .int), .methodLink RX1 24 yX2_at, .instanceMethod yX2_at, .selects RX2 yX2_at yX2_at, .initialized RX2, .code yX2_at cX2_at 2 (some .int), .fieldLink RX2 7 "WishWell$Row" "cells" "[I", .methodLink RX3 58 yX2_at] ++ wsX30 ++ wsX00 ++ wsX10 ++ wsX20 ++ (vx_atM "java/lang/ArrayIndexOutOfBoundsException" ["java/lang/IndexOutOfBoundsException", "java/lang/RuntimeException", "java/lang/Exception"]).filter goodWord)
def wsX3_fishCoins_r1 : List Cond := [Cond.fieldLink RX3 28 "WishWell$Well" "layers" "LWishWell$Layers;", Cond.fieldLink RX3 12 "WishWell$Well" "lands" "LWishWell$Lands;", Cond.fieldLink RX3 55 "WishWell$Lands" "values" "LWishWell$Row;", Cond.fieldLink RX3 92 "WishWell$Well" "fished" "I", Cond.methodLink RX3 89 yX3_dearestIn, Cond.instanceMethod yX3_dearestIn, Cond.selects RX3 yX3_dearestIn yX3_dearestIn, Cond.initialized RX3, Cond.code yX3_dearestIn cX3_dearestIn 5 (some .int), Cond.fieldLink RX3 95 "WishWell$Lands" "size" "I", Cond.methodLink RX3 98 yX1_at, Cond.instanceMethod yX1_at, Cond.selects RX1 yX1_at yX1_at, Cond.initialized RX1, Cond.code yX1_at cX1_at 3 (some .int), Cond.fieldLink RX1 14 "WishWell$Layers" "cells" "LWishWell$Row;", Cond.methodLink RX1 20 yX1_place, Cond.static yX1_place, Cond.code yX1_place cX1_place 3 (some .int), Cond.methodLink RX1 24 yX2_at, Cond.instanceMethod yX2_at, Cond.selects RX2 yX2_at yX2_at, Cond.initialized RX2, Cond.code yX2_at cX2_at 2 (some .int)]
def wsX3_fishCoins_r2 : List Cond := [Cond.fieldLink RX2 7 "WishWell$Row" "cells" "[I", Cond.methodLink RX3 58 yX2_at, Cond.methodLink RX3 45 yX1_add, Cond.instanceMethod yX1_add, Cond.selects RX1 yX1_add yX1_add, Cond.code yX1_add cX1_add 4 none, Cond.methodLink RX1 28 yX2_add, Cond.instanceMethod yX2_add, Cond.selects RX2 yX2_add yX2_add, Cond.code yX2_add cX2_add 3 none]
def wsX3_fishCoins : List Cond := .code yX3_fishCoins cX3_fishCoins 6 (some .int) :: ((wsX3_fishCoins_r1 ++ wsX3_fishCoins_r2) ++ wsX30 ++ wsX00 ++ wsX10 ++ wsX20 ++ (vx_atM "java/lang/ArrayIndexOutOfBoundsException" ["java/lang/IndexOutOfBoundsException", "java/lang/RuntimeException", "java/lang/Exception"]).filter goodWord)
def wsX3_valueIn : List Cond := .code yX3_valueIn cX3_valueIn 4 (some .int) :: ([.fieldLink RX3 12 "WishWell$Well" "lands" "LWishWell$Lands;", .fieldLink RX3 95 "WishWell$Lands" "size" "I", .fieldLink RX3 28 "WishWell$Well" "layers" "LWishWell$Layers;", .fieldLink RX3 55 "WishWell$Lands" "values" "LWishWell$Row;", .methodLink RX3 98 yX1_at, .instanceMethod yX1_at, .selects RX1 yX1_at yX1_at, .initialized RX1, .code yX1_at cX1_at 3 (some .int), .fieldLink RX1 14 "WishWell$Layers" "cells" "LWishWell$Row;", .methodLink RX1 20 yX1_place, .static yX1_place, .code yX1_place cX1_place 3 (some .int), .methodLink RX1 24 yX2_at, .instanceMethod yX2_at, .selects RX2 yX2_at yX2_at, .initialized RX2, .code yX2_at cX2_at 2 (some .int), .fieldLink RX2 7 "WishWell$Row" "cells" "[I", .methodLink RX3 58 yX2_at] ++ wsX30 ++ wsX00 ++ wsX10 ++ wsX20 ++ (vx_atM "java/lang/ArrayIndexOutOfBoundsException" ["java/lang/IndexOutOfBoundsException", "java/lang/RuntimeException", "java/lang/Exception"]).filter goodWord)
def wsX3_auditLayer_r1 : List Cond := [Cond.fieldLink RX3 28 "WishWell$Well" "layers" "LWishWell$Layers;", Cond.fieldLink RX3 103 "WishWell$Well" "purse" "I", Cond.fieldLink RX3 12 "WishWell$Well" "lands" "LWishWell$Lands;", Cond.fieldLink RX3 95 "WishWell$Lands" "size" "I", Cond.fieldLink RX3 109 "WishWell$Lands" "audited" "LWishWell$Row;", Cond.methodLink RX3 100 yX1_coinsIn, Cond.instanceMethod yX1_coinsIn, Cond.selects RX1 yX1_coinsIn yX1_coinsIn, Cond.initialized RX1, Cond.code yX1_coinsIn cX1_coinsIn 4 (some .int), Cond.methodLink RX1 32 yX1_at, Cond.instanceMethod yX1_at, Cond.selects RX1 yX1_at yX1_at, Cond.code yX1_at cX1_at 3 (some .int), Cond.fieldLink RX1 14 "WishWell$Layers" "cells" "LWishWell$Row;", Cond.methodLink RX1 20 yX1_place, Cond.static yX1_place, Cond.code yX1_place cX1_place 3 (some .int), Cond.methodLink RX1 24 yX2_at, Cond.instanceMethod yX2_at, Cond.selects RX2 yX2_at yX2_at, Cond.initialized RX2, Cond.code yX2_at cX2_at 2 (some .int), Cond.fieldLink RX2 7 "WishWell$Row" "cells" "[I"]
def wsX3_auditLayer_r2 : List Cond := [Cond.methodLink RX3 106 yX3_valueIn, Cond.instanceMethod yX3_valueIn, Cond.selects RX3 yX3_valueIn yX3_valueIn, Cond.initialized RX3, Cond.code yX3_valueIn cX3_valueIn 4 (some .int), Cond.fieldLink RX3 55 "WishWell$Lands" "values" "LWishWell$Row;", Cond.methodLink RX3 98 yX1_at, Cond.methodLink RX3 58 yX2_at, Cond.methodLink RX3 45 yX1_add, Cond.instanceMethod yX1_add, Cond.selects RX1 yX1_add yX1_add, Cond.code yX1_add cX1_add 4 none, Cond.methodLink RX1 28 yX2_add, Cond.instanceMethod yX2_add, Cond.selects RX2 yX2_add yX2_add, Cond.code yX2_add cX2_add 3 none, Cond.methodLink RX3 52 yX2_add]
def wsX3_auditLayer : List Cond := .code yX3_auditLayer cX3_auditLayer 5 (some .int) :: ((wsX3_auditLayer_r1 ++ wsX3_auditLayer_r2) ++ wsX30 ++ wsX00 ++ wsX10 ++ wsX20 ++ (vx_atM "java/lang/ArrayIndexOutOfBoundsException" ["java/lang/IndexOutOfBoundsException", "java/lang/RuntimeException", "java/lang/Exception"]).filter goodWord)
def wsX3_missingCoins_r1 : List Cond := [Cond.fieldLink RX3 12 "WishWell$Well" "lands" "LWishWell$Lands;", Cond.fieldLink RX3 49 "WishWell$Lands" "thrown" "LWishWell$Row;", Cond.fieldLink RX3 28 "WishWell$Well" "layers" "LWishWell$Layers;", Cond.fieldLink RX3 109 "WishWell$Lands" "audited" "LWishWell$Row;", Cond.fieldLink RX3 77 "WishWell$Lands" "takenBack" "LWishWell$Row;", Cond.methodLink RX3 58 yX2_at, Cond.instanceMethod yX2_at, Cond.selects RX2 yX2_at yX2_at, Cond.initialized RX2, Cond.code yX2_at cX2_at 2 (some .int), Cond.fieldLink RX2 7 "WishWell$Row" "cells" "[I", Cond.methodLink RX3 112 yX1_coinsOf, Cond.instanceMethod yX1_coinsOf, Cond.selects RX1 yX1_coinsOf yX1_coinsOf, Cond.initialized RX1, Cond.code yX1_coinsOf cX1_coinsOf 4 (some .int), Cond.methodLink RX1 32 yX1_at, Cond.instanceMethod yX1_at, Cond.selects RX1 yX1_at yX1_at, Cond.code yX1_at cX1_at 3 (some .int), Cond.fieldLink RX1 14 "WishWell$Layers" "cells" "LWishWell$Row;", Cond.methodLink RX1 20 yX1_place, Cond.static yX1_place, Cond.code yX1_place cX1_place 3 (some .int)]
def wsX3_missingCoins_r2 : List Cond := [Cond.methodLink RX1 24 yX2_at]
def wsX3_missingCoins : List Cond := .code yX3_missingCoins cX3_missingCoins 2 (some .int) :: ((wsX3_missingCoins_r1 ++ wsX3_missingCoins_r2) ++ wsX30 ++ wsX00 ++ wsX20 ++ wsX10 ++ (vx_atM "java/lang/ArrayIndexOutOfBoundsException" ["java/lang/IndexOutOfBoundsException", "java/lang/RuntimeException", "java/lang/Exception"]).filter goodWord)
def wsX3_valueOfAll_r1 : List Cond := [Cond.methodLink RX3 106 yX3_valueIn, Cond.instanceMethod yX3_valueIn, Cond.selects RX3 yX3_valueIn yX3_valueIn, Cond.initialized RX3, Cond.code yX3_valueIn cX3_valueIn 4 (some .int), Cond.fieldLink RX3 12 "WishWell$Well" "lands" "LWishWell$Lands;", Cond.fieldLink RX3 95 "WishWell$Lands" "size" "I", Cond.fieldLink RX3 28 "WishWell$Well" "layers" "LWishWell$Layers;", Cond.fieldLink RX3 55 "WishWell$Lands" "values" "LWishWell$Row;", Cond.methodLink RX3 98 yX1_at, Cond.instanceMethod yX1_at, Cond.selects RX1 yX1_at yX1_at, Cond.initialized RX1, Cond.code yX1_at cX1_at 3 (some .int), Cond.fieldLink RX1 14 "WishWell$Layers" "cells" "LWishWell$Row;", Cond.methodLink RX1 20 yX1_place, Cond.static yX1_place, Cond.code yX1_place cX1_place 3 (some .int), Cond.methodLink RX1 24 yX2_at, Cond.instanceMethod yX2_at, Cond.selects RX2 yX2_at yX2_at, Cond.initialized RX2, Cond.code yX2_at cX2_at 2 (some .int), Cond.fieldLink RX2 7 "WishWell$Row" "cells" "[I"]
def wsX3_valueOfAll_r2 : List Cond := [Cond.methodLink RX3 58 yX2_at]
def wsX3_valueOfAll : List Cond := .code yX3_valueOfAll cX3_valueOfAll 3 (some .int) :: ((wsX3_valueOfAll_r1 ++ wsX3_valueOfAll_r2) ++ wsX30 ++ wsX00 ++ wsX10 ++ wsX20 ++ (vx_atM "java/lang/ArrayIndexOutOfBoundsException" ["java/lang/IndexOutOfBoundsException", "java/lang/RuntimeException", "java/lang/Exception"]).filter goodWord)
def wsX3_coinsInAll : List Cond := .code yX3_coinsInAll cX3_coinsInAll 3 (some .int) :: ([.fieldLink RX3 28 "WishWell$Well" "layers" "LWishWell$Layers;", .methodLink RX3 100 yX1_coinsIn, .instanceMethod yX1_coinsIn, .selects RX1 yX1_coinsIn yX1_coinsIn, .initialized RX1, .code yX1_coinsIn cX1_coinsIn 4 (some .int), .methodLink RX1 32 yX1_at, .instanceMethod yX1_at, .selects RX1 yX1_at yX1_at, .code yX1_at cX1_at 3 (some .int), .fieldLink RX1 14 "WishWell$Layers" "cells" "LWishWell$Row;", .methodLink RX1 20 yX1_place, .static yX1_place, .code yX1_place cX1_place 3 (some .int), .methodLink RX1 24 yX2_at, .instanceMethod yX2_at, .selects RX2 yX2_at yX2_at, .initialized RX2, .code yX2_at cX2_at 2 (some .int), .fieldLink RX2 7 "WishWell$Row" "cells" "[I"] ++ wsX30 ++ wsX10 ++ wsX20 ++ (vx_atM "java/lang/ArrayIndexOutOfBoundsException" ["java/lang/IndexOutOfBoundsException", "java/lang/RuntimeException", "java/lang/Exception"]).filter goodWord)
def wsX3_landFigure_r1 : List Cond := [Cond.fieldLink RX3 12 "WishWell$Well" "lands" "LWishWell$Lands;", Cond.fieldLink RX3 55 "WishWell$Lands" "values" "LWishWell$Row;", Cond.fieldLink RX3 115 "WishWell$Lands" "weights" "LWishWell$Row;", Cond.fieldLink RX3 49 "WishWell$Lands" "thrown" "LWishWell$Row;", Cond.fieldLink RX3 28 "WishWell$Well" "layers" "LWishWell$Layers;", Cond.fieldLink RX3 109 "WishWell$Lands" "audited" "LWishWell$Row;", Cond.methodLink RX3 58 yX2_at, Cond.instanceMethod yX2_at, Cond.selects RX2 yX2_at yX2_at, Cond.initialized RX2, Cond.code yX2_at cX2_at 2 (some .int), Cond.fieldLink RX2 7 "WishWell$Row" "cells" "[I", Cond.methodLink RX3 112 yX1_coinsOf, Cond.instanceMethod yX1_coinsOf, Cond.selects RX1 yX1_coinsOf yX1_coinsOf, Cond.initialized RX1, Cond.code yX1_coinsOf cX1_coinsOf 4 (some .int), Cond.methodLink RX1 32 yX1_at, Cond.instanceMethod yX1_at, Cond.selects RX1 yX1_at yX1_at, Cond.code yX1_at cX1_at 3 (some .int), Cond.fieldLink RX1 14 "WishWell$Layers" "cells" "LWishWell$Row;", Cond.methodLink RX1 20 yX1_place, Cond.static yX1_place]
def wsX3_landFigure_r2 : List Cond := [Cond.code yX1_place cX1_place 3 (some .int), Cond.methodLink RX1 24 yX2_at]
def wsX3_landFigure : List Cond := .code yX3_landFigure cX3_landFigure 3 (some .int) :: ((wsX3_landFigure_r1 ++ wsX3_landFigure_r2) ++ wsX30 ++ wsX00 ++ wsX20 ++ wsX10 ++ (vx_atM "java/lang/ArrayIndexOutOfBoundsException" ["java/lang/IndexOutOfBoundsException", "java/lang/RuntimeException", "java/lang/Exception"]).filter goodWord)
def wsX4_howMany : List Cond := .code yX4_howMany cX4_howMany 4 (some .int) :: ([.fieldLink RX4 32 "WishWell$Wishes" "size" "I", .fieldLink RX4 26 "WishWell$Wishes" "fates" "LWishWell$Row;", .methodLink RX4 40 yX2_at, .instanceMethod yX2_at, .selects RX2 yX2_at yX2_at, .initialized RX2, .code yX2_at cX2_at 2 (some .int), .fieldLink RX2 7 "WishWell$Row" "cells" "[I"] ++ wsX40 ++ wsX20 ++ (vx_atM "java/lang/ArrayIndexOutOfBoundsException" ["java/lang/IndexOutOfBoundsException", "java/lang/RuntimeException", "java/lang/Exception"]).filter goodWord)
def wsX3_figure_r1 : List Cond := [Cond.fieldLink RX3 118 "WishWell$Well" "day" "I", Cond.fieldLink RX3 12 "WishWell$Well" "lands" "LWishWell$Lands;", Cond.fieldLink RX3 95 "WishWell$Lands" "size" "I", Cond.fieldLink RX3 21 "WishWell$Well" "wishes" "LWishWell$Wishes;", Cond.fieldLink RX3 121 "WishWell$Wishes" "size" "I", Cond.fieldLink RX3 41 "WishWell$Well" "favour" "I", Cond.fieldLink RX3 125 "WishWell$Well" "turn" "I", Cond.fieldLink RX3 103 "WishWell$Well" "purse" "I", Cond.fieldLink RX3 92 "WishWell$Well" "fished" "I", Cond.methodLink RX3 122 yX4_howMany, Cond.instanceMethod yX4_howMany, Cond.selects RX4 yX4_howMany yX4_howMany, Cond.initialized RX4, Cond.code yX4_howMany cX4_howMany 4 (some .int), Cond.fieldLink RX4 32 "WishWell$Wishes" "size" "I", Cond.fieldLink RX4 26 "WishWell$Wishes" "fates" "LWishWell$Row;", Cond.methodLink RX4 40 yX2_at, Cond.instanceMethod yX2_at, Cond.selects RX2 yX2_at yX2_at, Cond.initialized RX2, Cond.code yX2_at cX2_at 2 (some .int), Cond.fieldLink RX2 7 "WishWell$Row" "cells" "[I", Cond.methodLink RX3 128 yX3_coinsInAll, Cond.instanceMethod yX3_coinsInAll]
def wsX3_figure_r2 : List Cond := [Cond.selects RX3 yX3_coinsInAll yX3_coinsInAll, Cond.initialized RX3, Cond.code yX3_coinsInAll cX3_coinsInAll 3 (some .int), Cond.fieldLink RX3 28 "WishWell$Well" "layers" "LWishWell$Layers;", Cond.methodLink RX3 100 yX1_coinsIn, Cond.instanceMethod yX1_coinsIn, Cond.selects RX1 yX1_coinsIn yX1_coinsIn, Cond.initialized RX1, Cond.code yX1_coinsIn cX1_coinsIn 4 (some .int), Cond.methodLink RX1 32 yX1_at, Cond.instanceMethod yX1_at, Cond.selects RX1 yX1_at yX1_at, Cond.code yX1_at cX1_at 3 (some .int), Cond.fieldLink RX1 14 "WishWell$Layers" "cells" "LWishWell$Row;", Cond.methodLink RX1 20 yX1_place, Cond.static yX1_place, Cond.code yX1_place cX1_place 3 (some .int), Cond.methodLink RX1 24 yX2_at, Cond.methodLink RX3 132 yX3_valueOfAll, Cond.instanceMethod yX3_valueOfAll, Cond.selects RX3 yX3_valueOfAll yX3_valueOfAll, Cond.code yX3_valueOfAll cX3_valueOfAll 3 (some .int), Cond.methodLink RX3 106 yX3_valueIn, Cond.instanceMethod yX3_valueIn]
def wsX3_figure_r3 : List Cond := [Cond.selects RX3 yX3_valueIn yX3_valueIn, Cond.code yX3_valueIn cX3_valueIn 4 (some .int), Cond.fieldLink RX3 55 "WishWell$Lands" "values" "LWishWell$Row;", Cond.methodLink RX3 98 yX1_at, Cond.methodLink RX3 58 yX2_at]
def wsX3_figure : List Cond := .code yX3_figure cX3_figure 2 (some .int) :: ((wsX3_figure_r1 ++ (wsX3_figure_r2 ++ wsX3_figure_r3)) ++ wsX30 ++ wsX00 ++ wsX40 ++ wsX20 ++ wsX10 ++ (vx_atM "java/lang/ArrayIndexOutOfBoundsException" ["java/lang/IndexOutOfBoundsException", "java/lang/RuntimeException", "java/lang/Exception"]).filter goodWord)
def wsX3_coinValue : List Cond := .code yX3_coinValue cX3_coinValue 2 (some .int) :: ([.fieldLink RX3 12 "WishWell$Well" "lands" "LWishWell$Lands;", .fieldLink RX3 55 "WishWell$Lands" "values" "LWishWell$Row;", .fieldLink RX3 21 "WishWell$Well" "wishes" "LWishWell$Wishes;", .fieldLink RX3 71 "WishWell$Wishes" "coinLands" "LWishWell$Row;", .methodLink RX3 58 yX2_at, .instanceMethod yX2_at, .selects RX2 yX2_at yX2_at, .initialized RX2, .code yX2_at cX2_at 2 (some .int), .fieldLink RX2 7 "WishWell$Row" "cells" "[I"] ++ wsX30 ++ wsX00 ++ wsX40 ++ wsX20 ++ (vx_atM "java/lang/ArrayIndexOutOfBoundsException" ["java/lang/IndexOutOfBoundsException", "java/lang/RuntimeException", "java/lang/Exception"]).filter goodWord)
def wsX4_waitsFor : List Cond := .code yX4_waitsFor cX4_waitsFor 3 (some .boolean) :: ([.fieldLink RX4 26 "WishWell$Wishes" "fates" "LWishWell$Row;", .fieldLink RX4 14 "WishWell$Wishes" "kinds" "LWishWell$Row;", .methodLink RX4 40 yX2_at, .instanceMethod yX2_at, .selects RX2 yX2_at yX2_at, .initialized RX2, .code yX2_at cX2_at 2 (some .int), .fieldLink RX2 7 "WishWell$Row" "cells" "[I"] ++ wsX40 ++ wsX20 ++ (vx_atM "java/lang/ArrayIndexOutOfBoundsException" ["java/lang/IndexOutOfBoundsException", "java/lang/RuntimeException", "java/lang/Exception"]).filter goodWord)
def wsX3_nextWish : List Cond := .code yX3_nextWish cX3_nextWish 6 (some .int) :: ([.fieldLink RX3 21 "WishWell$Well" "wishes" "LWishWell$Wishes;", .fieldLink RX3 121 "WishWell$Wishes" "size" "I", .methodLink RX3 135 yX3_coinValue, .instanceMethod yX3_coinValue, .selects RX3 yX3_coinValue yX3_coinValue, .initialized RX3, .code yX3_coinValue cX3_coinValue 2 (some .int), .fieldLink RX3 12 "WishWell$Well" "lands" "LWishWell$Lands;", .fieldLink RX3 55 "WishWell$Lands" "values" "LWishWell$Row;", .fieldLink RX3 71 "WishWell$Wishes" "coinLands" "LWishWell$Row;", .methodLink RX3 58 yX2_at, .instanceMethod yX2_at, .selects RX2 yX2_at yX2_at, .initialized RX2, .code yX2_at cX2_at 2 (some .int), .fieldLink RX2 7 "WishWell$Row" "cells" "[I", .methodLink RX3 138 yX4_waitsFor, .instanceMethod yX4_waitsFor, .selects RX4 yX4_waitsFor yX4_waitsFor, .initialized RX4, .code yX4_waitsFor cX4_waitsFor 3 (some .boolean), .fieldLink RX4 26 "WishWell$Wishes" "fates" "LWishWell$Row;", .fieldLink RX4 14 "WishWell$Wishes" "kinds" "LWishWell$Row;", .methodLink RX4 40 yX2_at] ++ wsX30 ++ wsX40 ++ wsX00 ++ wsX20 ++ (vx_atM "java/lang/ArrayIndexOutOfBoundsException" ["java/lang/IndexOutOfBoundsException", "java/lang/RuntimeException", "java/lang/Exception"]).filter goodWord)
def wsX3_receiveVisitors_r1 : List Cond := [Cond.fieldLink RX3 12 "WishWell$Well" "lands" "LWishWell$Lands;", Cond.fieldLink RX3 95 "WishWell$Lands" "size" "I", Cond.fieldLink RX3 37 "WishWell$Well" "tide" "LWishWell$Row;", Cond.fieldLink RX3 118 "WishWell$Well" "day" "I", Cond.methodLink RX3 58 yX2_at, Cond.instanceMethod yX2_at, Cond.selects RX2 yX2_at yX2_at, Cond.initialized RX2, Cond.code yX2_at cX2_at 2 (some .int), Cond.fieldLink RX2 7 "WishWell$Row" "cells" "[I", Cond.methodLink RX3 155 yX3_throwCoin, Cond.instanceMethod yX3_throwCoin, Cond.selects RX3 yX3_throwCoin yX3_throwCoin, Cond.initialized RX3, Cond.code yX3_throwCoin cX3_throwCoin 2 none, Cond.fieldLink RX3 28 "WishWell$Well" "layers" "LWishWell$Layers;", Cond.fieldLink RX3 49 "WishWell$Lands" "thrown" "LWishWell$Row;", Cond.fieldLink RX3 55 "WishWell$Lands" "values" "LWishWell$Row;", Cond.methodLink RX3 45 yX1_add, Cond.instanceMethod yX1_add, Cond.selects RX1 yX1_add yX1_add, Cond.initialized RX1, Cond.code yX1_add cX1_add 4 none, Cond.fieldLink RX1 14 "WishWell$Layers" "cells" "LWishWell$Row;"]
def wsX3_receiveVisitors_r2 : List Cond := [Cond.methodLink RX1 20 yX1_place, Cond.static yX1_place, Cond.code yX1_place cX1_place 3 (some .int), Cond.methodLink RX1 28 yX2_add, Cond.instanceMethod yX2_add, Cond.selects RX2 yX2_add yX2_add, Cond.code yX2_add cX2_add 3 none, Cond.methodLink RX3 52 yX2_add, Cond.methodLink RX3 62 yX3_raiseFavour, Cond.instanceMethod yX3_raiseFavour, Cond.selects RX3 yX3_raiseFavour yX3_raiseFavour, Cond.code yX3_raiseFavour cX3_raiseFavour 2 none, Cond.fieldLink RX3 41 "WishWell$Well" "favour" "I", Cond.methodLink RX3 65 Lib.Math.min.name, Cond.static Lib.Math.min.name, Cond.initialized "java/lang/Math", Cond.code Lib.Math.min.name Lib.Math.min.code 2 (some .int)]
def wsX3_receiveVisitors : List Cond := .code yX3_receiveVisitors cX3_receiveVisitors 3 none :: ((wsX3_receiveVisitors_r1 ++ wsX3_receiveVisitors_r2) ++ wsX30 ++ wsX00 ++ wsX20 ++ wsX10 ++ (vx_atM "java/lang/ArrayIndexOutOfBoundsException" ["java/lang/IndexOutOfBoundsException", "java/lang/RuntimeException", "java/lang/Exception"]).filter goodWord)
def wsX3_sinkCoins_r1 : List Cond := [Cond.fieldLink RX3 12 "WishWell$Well" "lands" "LWishWell$Lands;", Cond.fieldLink RX3 95 "WishWell$Lands" "size" "I", Cond.fieldLink RX3 28 "WishWell$Well" "layers" "LWishWell$Layers;", Cond.fieldLink RX3 115 "WishWell$Lands" "weights" "LWishWell$Row;", Cond.methodLink RX3 98 yX1_at, Cond.instanceMethod yX1_at, Cond.selects RX1 yX1_at yX1_at, Cond.initialized RX1, Cond.code yX1_at cX1_at 3 (some .int), Cond.fieldLink RX1 14 "WishWell$Layers" "cells" "LWishWell$Row;", Cond.methodLink RX1 20 yX1_place, Cond.static yX1_place, Cond.code yX1_place cX1_place 3 (some .int), Cond.methodLink RX1 24 yX2_at, Cond.instanceMethod yX2_at, Cond.selects RX2 yX2_at yX2_at, Cond.initialized RX2, Cond.code yX2_at cX2_at 2 (some .int), Cond.fieldLink RX2 7 "WishWell$Row" "cells" "[I", Cond.methodLink RX3 58 yX2_at, Cond.methodLink RX3 45 yX1_add, Cond.instanceMethod yX1_add, Cond.selects RX1 yX1_add yX1_add, Cond.code yX1_add cX1_add 4 none]
def wsX3_sinkCoins_r2 : List Cond := [Cond.methodLink RX1 28 yX2_add, Cond.instanceMethod yX2_add, Cond.selects RX2 yX2_add yX2_add, Cond.code yX2_add cX2_add 3 none]
def wsX3_sinkCoins : List Cond := .code yX3_sinkCoins cX3_sinkCoins 5 none :: ((wsX3_sinkCoins_r1 ++ wsX3_sinkCoins_r2) ++ wsX30 ++ wsX00 ++ wsX10 ++ wsX20 ++ (vx_atM "java/lang/ArrayIndexOutOfBoundsException" ["java/lang/IndexOutOfBoundsException", "java/lang/RuntimeException", "java/lang/Exception"]).filter goodWord)
def wsX3_grantNext_r1 : List Cond := [Cond.fieldLink RX3 125 "WishWell$Well" "turn" "I", Cond.fieldLink RX3 41 "WishWell$Well" "favour" "I", Cond.fieldLink RX3 21 "WishWell$Well" "wishes" "LWishWell$Wishes;", Cond.fieldLink RX3 80 "WishWell$Wishes" "fates" "LWishWell$Row;", Cond.fieldLink RX3 161 "WishWell$Wishes" "grantDays" "LWishWell$Row;", Cond.fieldLink RX3 118 "WishWell$Well" "day" "I", Cond.methodLink RX3 158 yX3_nextWish, Cond.instanceMethod yX3_nextWish, Cond.selects RX3 yX3_nextWish yX3_nextWish, Cond.initialized RX3, Cond.code yX3_nextWish cX3_nextWish 6 (some .int), Cond.fieldLink RX3 121 "WishWell$Wishes" "size" "I", Cond.methodLink RX3 135 yX3_coinValue, Cond.instanceMethod yX3_coinValue, Cond.selects RX3 yX3_coinValue yX3_coinValue, Cond.code yX3_coinValue cX3_coinValue 2 (some .int), Cond.fieldLink RX3 12 "WishWell$Well" "lands" "LWishWell$Lands;", Cond.fieldLink RX3 55 "WishWell$Lands" "values" "LWishWell$Row;", Cond.fieldLink RX3 71 "WishWell$Wishes" "coinLands" "LWishWell$Row;", Cond.methodLink RX3 58 yX2_at, Cond.instanceMethod yX2_at, Cond.selects RX2 yX2_at yX2_at, Cond.initialized RX2, Cond.code yX2_at cX2_at 2 (some .int)]
def wsX3_grantNext_r2 : List Cond := [Cond.fieldLink RX2 7 "WishWell$Row" "cells" "[I", Cond.methodLink RX3 138 yX4_waitsFor, Cond.instanceMethod yX4_waitsFor, Cond.selects RX4 yX4_waitsFor yX4_waitsFor, Cond.initialized RX4, Cond.code yX4_waitsFor cX4_waitsFor 3 (some .boolean), Cond.fieldLink RX4 26 "WishWell$Wishes" "fates" "LWishWell$Row;", Cond.fieldLink RX4 14 "WishWell$Wishes" "kinds" "LWishWell$Row;", Cond.methodLink RX4 40 yX2_at, Cond.methodLink RX3 83 yX2_put, Cond.instanceMethod yX2_put, Cond.selects RX2 yX2_put yX2_put, Cond.code yX2_put cX2_put 3 none]
def wsX3_grantNext : List Cond := .code yX3_grantNext cX3_grantNext 3 (some .boolean) :: ((wsX3_grantNext_r1 ++ wsX3_grantNext_r2) ++ wsX30 ++ wsX40 ++ wsX00 ++ wsX20 ++ (vx_atM "java/lang/ArrayIndexOutOfBoundsException" ["java/lang/IndexOutOfBoundsException", "java/lang/RuntimeException", "java/lang/Exception"]).filter goodWord)
def wsX3_liveDay_r1 : List Cond := [Cond.fieldLink RX3 125 "WishWell$Well" "turn" "I", Cond.fieldLink RX3 118 "WishWell$Well" "day" "I", Cond.methodLink RX3 146 yX3_receiveVisitors, Cond.instanceMethod yX3_receiveVisitors, Cond.selects RX3 yX3_receiveVisitors yX3_receiveVisitors, Cond.initialized RX3, Cond.code yX3_receiveVisitors cX3_receiveVisitors 3 none, Cond.fieldLink RX3 12 "WishWell$Well" "lands" "LWishWell$Lands;", Cond.fieldLink RX3 95 "WishWell$Lands" "size" "I", Cond.fieldLink RX3 37 "WishWell$Well" "tide" "LWishWell$Row;", Cond.methodLink RX3 58 yX2_at, Cond.instanceMethod yX2_at, Cond.selects RX2 yX2_at yX2_at, Cond.initialized RX2, Cond.code yX2_at cX2_at 2 (some .int), Cond.fieldLink RX2 7 "WishWell$Row" "cells" "[I", Cond.methodLink RX3 155 yX3_throwCoin, Cond.instanceMethod yX3_throwCoin, Cond.selects RX3 yX3_throwCoin yX3_throwCoin, Cond.code yX3_throwCoin cX3_throwCoin 2 none, Cond.fieldLink RX3 28 "WishWell$Well" "layers" "LWishWell$Layers;", Cond.fieldLink RX3 49 "WishWell$Lands" "thrown" "LWishWell$Row;", Cond.fieldLink RX3 55 "WishWell$Lands" "values" "LWishWell$Row;", Cond.methodLink RX3 45 yX1_add]
def wsX3_liveDay_r2 : List Cond := [Cond.instanceMethod yX1_add, Cond.selects RX1 yX1_add yX1_add, Cond.initialized RX1, Cond.code yX1_add cX1_add 4 none, Cond.fieldLink RX1 14 "WishWell$Layers" "cells" "LWishWell$Row;", Cond.methodLink RX1 20 yX1_place, Cond.static yX1_place, Cond.code yX1_place cX1_place 3 (some .int), Cond.methodLink RX1 28 yX2_add, Cond.instanceMethod yX2_add, Cond.selects RX2 yX2_add yX2_add, Cond.code yX2_add cX2_add 3 none, Cond.methodLink RX3 52 yX2_add, Cond.methodLink RX3 62 yX3_raiseFavour, Cond.instanceMethod yX3_raiseFavour, Cond.selects RX3 yX3_raiseFavour yX3_raiseFavour, Cond.code yX3_raiseFavour cX3_raiseFavour 2 none, Cond.fieldLink RX3 41 "WishWell$Well" "favour" "I", Cond.methodLink RX3 65 Lib.Math.min.name, Cond.static Lib.Math.min.name, Cond.initialized "java/lang/Math", Cond.code Lib.Math.min.name Lib.Math.min.code 2 (some .int), Cond.methodLink RX3 149 yX3_sinkCoins, Cond.instanceMethod yX3_sinkCoins]
def wsX3_liveDay_r3 : List Cond := [Cond.selects RX3 yX3_sinkCoins yX3_sinkCoins, Cond.code yX3_sinkCoins cX3_sinkCoins 5 none, Cond.fieldLink RX3 115 "WishWell$Lands" "weights" "LWishWell$Row;", Cond.methodLink RX3 98 yX1_at, Cond.instanceMethod yX1_at, Cond.selects RX1 yX1_at yX1_at, Cond.code yX1_at cX1_at 3 (some .int), Cond.methodLink RX1 24 yX2_at, Cond.methodLink RX3 152 yX3_grantNext, Cond.instanceMethod yX3_grantNext, Cond.selects RX3 yX3_grantNext yX3_grantNext, Cond.code yX3_grantNext cX3_grantNext 3 (some .boolean), Cond.fieldLink RX3 21 "WishWell$Well" "wishes" "LWishWell$Wishes;", Cond.fieldLink RX3 80 "WishWell$Wishes" "fates" "LWishWell$Row;", Cond.fieldLink RX3 161 "WishWell$Wishes" "grantDays" "LWishWell$Row;", Cond.methodLink RX3 158 yX3_nextWish, Cond.instanceMethod yX3_nextWish, Cond.selects RX3 yX3_nextWish yX3_nextWish, Cond.code yX3_nextWish cX3_nextWish 6 (some .int), Cond.fieldLink RX3 121 "WishWell$Wishes" "size" "I", Cond.methodLink RX3 135 yX3_coinValue, Cond.instanceMethod yX3_coinValue, Cond.selects RX3 yX3_coinValue yX3_coinValue, Cond.code yX3_coinValue cX3_coinValue 2 (some .int)]
def wsX3_liveDay_r4 : List Cond := [Cond.fieldLink RX3 71 "WishWell$Wishes" "coinLands" "LWishWell$Row;", Cond.methodLink RX3 138 yX4_waitsFor, Cond.instanceMethod yX4_waitsFor, Cond.selects RX4 yX4_waitsFor yX4_waitsFor, Cond.initialized RX4, Cond.code yX4_waitsFor cX4_waitsFor 3 (some .boolean), Cond.fieldLink RX4 26 "WishWell$Wishes" "fates" "LWishWell$Row;", Cond.fieldLink RX4 14 "WishWell$Wishes" "kinds" "LWishWell$Row;", Cond.methodLink RX4 40 yX2_at, Cond.methodLink RX3 83 yX2_put, Cond.instanceMethod yX2_put, Cond.selects RX2 yX2_put yX2_put, Cond.code yX2_put cX2_put 3 none]
def wsX3_liveDay : List Cond := .code yX3_liveDay cX3_liveDay 2 (some .boolean) :: ((wsX3_liveDay_r1 ++ (wsX3_liveDay_r2 ++ (wsX3_liveDay_r3 ++ wsX3_liveDay_r4))) ++ wsX30 ++ wsX00 ++ wsX20 ++ wsX10 ++ wsX40 ++ (vx_atM "java/lang/ArrayIndexOutOfBoundsException" ["java/lang/IndexOutOfBoundsException", "java/lang/RuntimeException", "java/lang/Exception"]).filter goodWord)
def wsX3_liveDays_r1 : List Cond := [Cond.methodLink RX3 142 yX3_liveDay, Cond.instanceMethod yX3_liveDay, Cond.selects RX3 yX3_liveDay yX3_liveDay, Cond.initialized RX3, Cond.code yX3_liveDay cX3_liveDay 2 (some .boolean), Cond.fieldLink RX3 125 "WishWell$Well" "turn" "I", Cond.fieldLink RX3 118 "WishWell$Well" "day" "I", Cond.methodLink RX3 146 yX3_receiveVisitors, Cond.instanceMethod yX3_receiveVisitors, Cond.selects RX3 yX3_receiveVisitors yX3_receiveVisitors, Cond.code yX3_receiveVisitors cX3_receiveVisitors 3 none, Cond.fieldLink RX3 12 "WishWell$Well" "lands" "LWishWell$Lands;", Cond.fieldLink RX3 95 "WishWell$Lands" "size" "I", Cond.fieldLink RX3 37 "WishWell$Well" "tide" "LWishWell$Row;", Cond.methodLink RX3 58 yX2_at, Cond.instanceMethod yX2_at, Cond.selects RX2 yX2_at yX2_at, Cond.initialized RX2, Cond.code yX2_at cX2_at 2 (some .int), Cond.fieldLink RX2 7 "WishWell$Row" "cells" "[I", Cond.methodLink RX3 155 yX3_throwCoin, Cond.instanceMethod yX3_throwCoin, Cond.selects RX3 yX3_throwCoin yX3_throwCoin, Cond.code yX3_throwCoin cX3_throwCoin 2 none]
def wsX3_liveDays_r2 : List Cond := [Cond.fieldLink RX3 28 "WishWell$Well" "layers" "LWishWell$Layers;", Cond.fieldLink RX3 49 "WishWell$Lands" "thrown" "LWishWell$Row;", Cond.fieldLink RX3 55 "WishWell$Lands" "values" "LWishWell$Row;", Cond.methodLink RX3 45 yX1_add, Cond.instanceMethod yX1_add, Cond.selects RX1 yX1_add yX1_add, Cond.initialized RX1, Cond.code yX1_add cX1_add 4 none, Cond.fieldLink RX1 14 "WishWell$Layers" "cells" "LWishWell$Row;", Cond.methodLink RX1 20 yX1_place, Cond.static yX1_place, Cond.code yX1_place cX1_place 3 (some .int), Cond.methodLink RX1 28 yX2_add, Cond.instanceMethod yX2_add, Cond.selects RX2 yX2_add yX2_add, Cond.code yX2_add cX2_add 3 none, Cond.methodLink RX3 52 yX2_add, Cond.methodLink RX3 62 yX3_raiseFavour, Cond.instanceMethod yX3_raiseFavour, Cond.selects RX3 yX3_raiseFavour yX3_raiseFavour, Cond.code yX3_raiseFavour cX3_raiseFavour 2 none, Cond.fieldLink RX3 41 "WishWell$Well" "favour" "I", Cond.methodLink RX3 65 Lib.Math.min.name, Cond.static Lib.Math.min.name]
def wsX3_liveDays_r3 : List Cond := [Cond.initialized "java/lang/Math", Cond.code Lib.Math.min.name Lib.Math.min.code 2 (some .int), Cond.methodLink RX3 149 yX3_sinkCoins, Cond.instanceMethod yX3_sinkCoins, Cond.selects RX3 yX3_sinkCoins yX3_sinkCoins, Cond.code yX3_sinkCoins cX3_sinkCoins 5 none, Cond.fieldLink RX3 115 "WishWell$Lands" "weights" "LWishWell$Row;", Cond.methodLink RX3 98 yX1_at, Cond.instanceMethod yX1_at, Cond.selects RX1 yX1_at yX1_at, Cond.code yX1_at cX1_at 3 (some .int), Cond.methodLink RX1 24 yX2_at, Cond.methodLink RX3 152 yX3_grantNext, Cond.instanceMethod yX3_grantNext, Cond.selects RX3 yX3_grantNext yX3_grantNext, Cond.code yX3_grantNext cX3_grantNext 3 (some .boolean), Cond.fieldLink RX3 21 "WishWell$Well" "wishes" "LWishWell$Wishes;", Cond.fieldLink RX3 80 "WishWell$Wishes" "fates" "LWishWell$Row;", Cond.fieldLink RX3 161 "WishWell$Wishes" "grantDays" "LWishWell$Row;", Cond.methodLink RX3 158 yX3_nextWish, Cond.instanceMethod yX3_nextWish, Cond.selects RX3 yX3_nextWish yX3_nextWish, Cond.code yX3_nextWish cX3_nextWish 6 (some .int), Cond.fieldLink RX3 121 "WishWell$Wishes" "size" "I"]
def wsX3_liveDays_r4 : List Cond := [Cond.methodLink RX3 135 yX3_coinValue, Cond.instanceMethod yX3_coinValue, Cond.selects RX3 yX3_coinValue yX3_coinValue, Cond.code yX3_coinValue cX3_coinValue 2 (some .int), Cond.fieldLink RX3 71 "WishWell$Wishes" "coinLands" "LWishWell$Row;", Cond.methodLink RX3 138 yX4_waitsFor, Cond.instanceMethod yX4_waitsFor, Cond.selects RX4 yX4_waitsFor yX4_waitsFor, Cond.initialized RX4, Cond.code yX4_waitsFor cX4_waitsFor 3 (some .boolean), Cond.fieldLink RX4 26 "WishWell$Wishes" "fates" "LWishWell$Row;", Cond.fieldLink RX4 14 "WishWell$Wishes" "kinds" "LWishWell$Row;", Cond.methodLink RX4 40 yX2_at, Cond.methodLink RX3 83 yX2_put, Cond.instanceMethod yX2_put, Cond.selects RX2 yX2_put yX2_put, Cond.code yX2_put cX2_put 3 none]
def wsX3_liveDays : List Cond := .code yX3_liveDays cX3_liveDays 4 (some .int) :: ((wsX3_liveDays_r1 ++ (wsX3_liveDays_r2 ++ (wsX3_liveDays_r3 ++ wsX3_liveDays_r4))) ++ wsX30 ++ wsX00 ++ wsX20 ++ wsX10 ++ wsX40 ++ (vx_atM "java/lang/ArrayIndexOutOfBoundsException" ["java/lang/IndexOutOfBoundsException", "java/lang/RuntimeException", "java/lang/Exception"]).filter goodWord)
def wsX4_takeOver : List Cond := .code yX4_takeOver cX4_takeOver 2 none :: ([.fieldLink RX4 14 "WishWell$Wishes" "kinds" "LWishWell$Row;", .fieldLink RX4 20 "WishWell$Wishes" "coinLands" "LWishWell$Row;", .fieldLink RX4 23 "WishWell$Wishes" "thrownDays" "LWishWell$Row;", .fieldLink RX4 26 "WishWell$Wishes" "fates" "LWishWell$Row;", .fieldLink RX4 29 "WishWell$Wishes" "grantDays" "LWishWell$Row;", .fieldLink RX4 32 "WishWell$Wishes" "size" "I", .methodLink RX4 44 yX2_takeOver, .instanceMethod yX2_takeOver, .selects RX2 yX2_takeOver yX2_takeOver, .initialized RX2, .code yX2_takeOver cX2_takeOver 2 none, .fieldLink RX2 7 "WishWell$Row" "cells" "[I", .methodLink RX2 13 Lib.Math.min.name, .static Lib.Math.min.name, .initialized "java/lang/Math", .code Lib.Math.min.name Lib.Math.min.code 2 (some .int), .methodLink RX2 19 arraycopyName, .native arraycopyName, .static arraycopyName, .initialized "java/lang/System"] ++ wsX40 ++ wsX20)
def wsX3_takeOver_r1 : List Cond := [Cond.fieldLink RX3 12 "WishWell$Well" "lands" "LWishWell$Lands;", Cond.fieldLink RX3 21 "WishWell$Well" "wishes" "LWishWell$Wishes;", Cond.fieldLink RX3 28 "WishWell$Well" "layers" "LWishWell$Layers;", Cond.fieldLink RX3 37 "WishWell$Well" "tide" "LWishWell$Row;", Cond.fieldLink RX3 118 "WishWell$Well" "day" "I", Cond.fieldLink RX3 41 "WishWell$Well" "favour" "I", Cond.fieldLink RX3 125 "WishWell$Well" "turn" "I", Cond.fieldLink RX3 103 "WishWell$Well" "purse" "I", Cond.fieldLink RX3 92 "WishWell$Well" "fished" "I", Cond.methodLink RX3 164 yX0_takeOver, Cond.instanceMethod yX0_takeOver, Cond.selects RX0 yX0_takeOver yX0_takeOver, Cond.initialized RX0, Cond.code yX0_takeOver cX0_takeOver 2 none, Cond.fieldLink RX0 14 "WishWell$Lands" "values" "LWishWell$Row;", Cond.fieldLink RX0 20 "WishWell$Lands" "weights" "LWishWell$Row;", Cond.fieldLink RX0 23 "WishWell$Lands" "thrown" "LWishWell$Row;", Cond.fieldLink RX0 26 "WishWell$Lands" "audited" "LWishWell$Row;", Cond.fieldLink RX0 29 "WishWell$Lands" "takenBack" "LWishWell$Row;", Cond.fieldLink RX0 32 "WishWell$Lands" "size" "I", Cond.methodLink RX0 40 yX2_takeOver, Cond.instanceMethod yX2_takeOver, Cond.selects RX2 yX2_takeOver yX2_takeOver, Cond.initialized RX2]
def wsX3_takeOver_r2 : List Cond := [Cond.code yX2_takeOver cX2_takeOver 2 none, Cond.fieldLink RX2 7 "WishWell$Row" "cells" "[I", Cond.methodLink RX2 13 Lib.Math.min.name, Cond.static Lib.Math.min.name, Cond.initialized "java/lang/Math", Cond.code Lib.Math.min.name Lib.Math.min.code 2 (some .int), Cond.methodLink RX2 19 arraycopyName, Cond.native arraycopyName, Cond.static arraycopyName, Cond.initialized "java/lang/System", Cond.methodLink RX3 168 yX4_takeOver, Cond.instanceMethod yX4_takeOver, Cond.selects RX4 yX4_takeOver yX4_takeOver, Cond.initialized RX4, Cond.code yX4_takeOver cX4_takeOver 2 none, Cond.fieldLink RX4 14 "WishWell$Wishes" "kinds" "LWishWell$Row;", Cond.fieldLink RX4 20 "WishWell$Wishes" "coinLands" "LWishWell$Row;", Cond.fieldLink RX4 23 "WishWell$Wishes" "thrownDays" "LWishWell$Row;", Cond.fieldLink RX4 26 "WishWell$Wishes" "fates" "LWishWell$Row;", Cond.fieldLink RX4 29 "WishWell$Wishes" "grantDays" "LWishWell$Row;", Cond.fieldLink RX4 32 "WishWell$Wishes" "size" "I", Cond.methodLink RX4 44 yX2_takeOver, Cond.methodLink RX3 171 yX1_takeOver, Cond.instanceMethod yX1_takeOver]
def wsX3_takeOver_r3 : List Cond := [Cond.selects RX1 yX1_takeOver yX1_takeOver, Cond.initialized RX1, Cond.code yX1_takeOver cX1_takeOver 2 none, Cond.fieldLink RX1 14 "WishWell$Layers" "cells" "LWishWell$Row;", Cond.methodLink RX1 34 yX2_takeOver, Cond.methodLink RX3 174 yX2_takeOver]
def wsX3_takeOver : List Cond := .code yX3_takeOver cX3_takeOver 2 none :: ((wsX3_takeOver_r1 ++ (wsX3_takeOver_r2 ++ wsX3_takeOver_r3)) ++ wsX30 ++ wsX00 ++ wsX20 ++ wsX40 ++ wsX10)
def wsX4_has : List Cond := .code yX4_has cX4_has 2 (some .boolean) :: ([.fieldLink RX4 32 "WishWell$Wishes" "size" "I"] ++ wsX40)
def wsX4_tell : List Cond := .code yX4_tell cX4_tell 5 (some .int) :: ([.fieldLink RX4 32 "WishWell$Wishes" "size" "I", .fieldLink RX4 14 "WishWell$Wishes" "kinds" "LWishWell$Row;", .fieldLink RX4 20 "WishWell$Wishes" "coinLands" "LWishWell$Row;", .fieldLink RX4 23 "WishWell$Wishes" "thrownDays" "LWishWell$Row;", .fieldLink RX4 26 "WishWell$Wishes" "fates" "LWishWell$Row;", .fieldLink RX4 29 "WishWell$Wishes" "grantDays" "LWishWell$Row;", .methodLink RX4 36 yX2_put, .instanceMethod yX2_put, .selects RX2 yX2_put yX2_put, .initialized RX2, .code yX2_put cX2_put 3 none, .fieldLink RX2 7 "WishWell$Row" "cells" "[I"] ++ wsX40 ++ wsX20 ++ (vx_atM "java/lang/ArrayIndexOutOfBoundsException" ["java/lang/IndexOutOfBoundsException", "java/lang/RuntimeException", "java/lang/Exception"]).filter goodWord)
def wsX4_meanWait : List Cond := .code yX4_meanWait cX4_meanWait 4 (some .double) :: ([.fieldLink RX4 32 "WishWell$Wishes" "size" "I", .fieldLink RX4 26 "WishWell$Wishes" "fates" "LWishWell$Row;", .fieldLink RX4 29 "WishWell$Wishes" "grantDays" "LWishWell$Row;", .fieldLink RX4 23 "WishWell$Wishes" "thrownDays" "LWishWell$Row;", .methodLink RX4 40 yX2_at, .instanceMethod yX2_at, .selects RX2 yX2_at yX2_at, .initialized RX2, .code yX2_at cX2_at 2 (some .int), .fieldLink RX2 7 "WishWell$Row" "cells" "[I"] ++ wsX40 ++ wsX20 ++ (vx_atM "java/lang/ArrayIndexOutOfBoundsException" ["java/lang/IndexOutOfBoundsException", "java/lang/RuntimeException", "java/lang/Exception"]).filter goodWord)
def wsX4_figure : List Cond := .code yX4_figure cX4_figure 3 (some .int) :: ([.fieldLink RX4 14 "WishWell$Wishes" "kinds" "LWishWell$Row;", .fieldLink RX4 20 "WishWell$Wishes" "coinLands" "LWishWell$Row;", .fieldLink RX4 23 "WishWell$Wishes" "thrownDays" "LWishWell$Row;", .fieldLink RX4 26 "WishWell$Wishes" "fates" "LWishWell$Row;", .fieldLink RX4 29 "WishWell$Wishes" "grantDays" "LWishWell$Row;", .methodLink RX4 40 yX2_at, .instanceMethod yX2_at, .selects RX2 yX2_at yX2_at, .initialized RX2, .code yX2_at cX2_at 2 (some .int), .fieldLink RX2 7 "WishWell$Row" "cells" "[I"] ++ wsX40 ++ wsX20 ++ (vx_atM "java/lang/ArrayIndexOutOfBoundsException" ["java/lang/IndexOutOfBoundsException", "java/lang/RuntimeException", "java/lang/Exception"]).filter goodWord)
def wsX5_init_r1 : List Cond := [Cond.methodLink RX5 1 objectInit, Cond.instanceMethod objectInit, Cond.code objectInit ⟨#[0xb1]⟩ 1 none, Cond.classLink RX5 7 RX3, Cond.instantiable RX3 9, Cond.initialized RX3, Cond.fieldLink RX5 10 "WishWell" "well" "LWishWell$Well;", Cond.fieldLink RX5 16 "WishWell" "trial" "LWishWell$Well;", Cond.classLink RX5 19 RX2, Cond.instantiable RX2 1, Cond.initialized RX2, Cond.fieldLink RX5 24 "WishWell" "fewest" "LWishWell$Row;", Cond.instanceMethod yX3_init, Cond.code yX3_init cX3_init 1 none, Cond.methodLink RX3 3 objectInit, Cond.classLink RX3 9 RX0, Cond.instantiable RX0 6, Cond.initialized RX0, Cond.fieldLink RX3 12 "WishWell$Well" "lands" "LWishWell$Lands;", Cond.classLink RX3 18 RX4, Cond.instantiable RX4 6, Cond.initialized RX4, Cond.fieldLink RX3 21 "WishWell$Well" "wishes" "LWishWell$Wishes;", Cond.classLink RX3 25 RX1]
def wsX5_init_r2 : List Cond := [Cond.instantiable RX1 1, Cond.initialized RX1, Cond.fieldLink RX3 28 "WishWell$Well" "layers" "LWishWell$Layers;", Cond.classLink RX3 32 RX2, Cond.fieldLink RX3 37 "WishWell$Well" "tide" "LWishWell$Row;", Cond.fieldLink RX3 41 "WishWell$Well" "favour" "I", Cond.instanceMethod yX0_init, Cond.code yX0_init cX0_init 1 none, Cond.methodLink RX0 3 objectInit, Cond.classLink RX0 9 RX2, Cond.fieldLink RX0 14 "WishWell$Lands" "values" "LWishWell$Row;", Cond.fieldLink RX0 20 "WishWell$Lands" "weights" "LWishWell$Row;", Cond.fieldLink RX0 23 "WishWell$Lands" "thrown" "LWishWell$Row;", Cond.fieldLink RX0 26 "WishWell$Lands" "audited" "LWishWell$Row;", Cond.fieldLink RX0 29 "WishWell$Lands" "takenBack" "LWishWell$Row;", Cond.methodLink RX0 11 yX2_init, Cond.instanceMethod yX2_init, Cond.code yX2_init cX2_init 2 none, Cond.methodLink RX2 1 objectInit, Cond.arrayClass .int, Cond.fieldLink RX2 7 "WishWell$Row" "cells" "[I", Cond.instanceMethod yX4_init, Cond.code yX4_init cX4_init 1 none, Cond.methodLink RX4 3 objectInit]
def wsX5_init_r3 : List Cond := [Cond.classLink RX4 9 RX2, Cond.fieldLink RX4 14 "WishWell$Wishes" "kinds" "LWishWell$Row;", Cond.fieldLink RX4 20 "WishWell$Wishes" "coinLands" "LWishWell$Row;", Cond.fieldLink RX4 23 "WishWell$Wishes" "thrownDays" "LWishWell$Row;", Cond.fieldLink RX4 26 "WishWell$Wishes" "fates" "LWishWell$Row;", Cond.fieldLink RX4 29 "WishWell$Wishes" "grantDays" "LWishWell$Row;", Cond.methodLink RX4 11 yX2_init, Cond.instanceMethod yX1_init, Cond.code yX1_init cX1_init 1 none, Cond.methodLink RX1 3 objectInit, Cond.classLink RX1 9 RX2, Cond.fieldLink RX1 14 "WishWell$Layers" "cells" "LWishWell$Row;", Cond.methodLink RX1 11 yX2_init, Cond.methodLink RX3 34 yX2_init, Cond.methodLink RX5 21 yX2_init]
def wsX5_init : List Cond := .code yX5_init cX5_init 1 none :: ((wsX5_init_r1 ++ (wsX5_init_r2 ++ wsX5_init_r3)) ++ wsX30 ++ wsX50 ++ wsX20 ++ wsX00 ++ wsX40 ++ wsX10)
def wsX5_within : List Cond := .code yX5_within cX5_within 3 (some .boolean) :: ([])
def wsX5_addLand_r1 : List Cond := [Cond.classLink RX5 32 "java/lang/IllegalArgumentException", Cond.initialized "java/lang/IllegalArgumentException", Cond.classLink RX5 51 "java/lang/IllegalStateException", Cond.initialized "java/lang/IllegalStateException", Cond.fieldLink RX5 10 "WishWell" "well" "LWishWell$Well;", Cond.fieldLink RX5 41 "WishWell$Well" "lands" "LWishWell$Lands;", Cond.fieldLink RX5 45 "WishWell$Lands" "size" "I", Cond.methodLink RX5 28 yX5_within, Cond.static yX5_within, Cond.initialized RX5, Cond.code yX5_within cX5_within 3 (some .boolean), Cond.methodLink RX5 56 yX0_tell, Cond.instanceMethod yX0_tell, Cond.selects RX0 yX0_tell yX0_tell, Cond.initialized RX0, Cond.code yX0_tell cX0_tell 4 (some .int), Cond.fieldLink RX0 32 "WishWell$Lands" "size" "I", Cond.fieldLink RX0 14 "WishWell$Lands" "values" "LWishWell$Row;", Cond.fieldLink RX0 20 "WishWell$Lands" "weights" "LWishWell$Row;", Cond.methodLink RX0 36 yX2_put, Cond.instanceMethod yX2_put, Cond.selects RX2 yX2_put yX2_put, Cond.initialized RX2, Cond.code yX2_put cX2_put 3 none]
def wsX5_addLand_r2 : List Cond := [Cond.fieldLink RX2 7 "WishWell$Row" "cells" "[I"]
def wsX5_addLand : List Cond := .code yX5_addLand cX5_addLand 3 (some .int) :: ((wsX5_addLand_r1 ++ wsX5_addLand_r2) ++ wsX50 ++ wsX30 ++ wsX00 ++ wsX20 ++ (vx_atS RX5 36 "java/lang/IllegalArgumentException" ["java/lang/RuntimeException", "java/lang/Exception"]).filter goodWord ++ (vx_atS RX5 55 "java/lang/IllegalStateException" ["java/lang/RuntimeException", "java/lang/Exception"]).filter goodWord ++ (vx_atM "java/lang/ArrayIndexOutOfBoundsException" ["java/lang/IndexOutOfBoundsException", "java/lang/RuntimeException", "java/lang/Exception"]).filter goodWord)
def wsX5_setTide : List Cond := .code yX5_setTide cX5_setTide 4 (some .int) :: ([.classLink RX5 60 "java/lang/IndexOutOfBoundsException", .initialized "java/lang/IndexOutOfBoundsException", .classLink RX5 32 "java/lang/IllegalArgumentException", .initialized "java/lang/IllegalArgumentException", .fieldLink RX5 10 "WishWell" "well" "LWishWell$Well;", .fieldLink RX5 67 "WishWell$Well" "tide" "LWishWell$Row;", .methodLink RX5 28 yX5_within, .static yX5_within, .initialized RX5, .code yX5_within cX5_within 3 (some .boolean), .methodLink RX5 70 yX2_at, .instanceMethod yX2_at, .selects RX2 yX2_at yX2_at, .initialized RX2, .code yX2_at cX2_at 2 (some .int), .fieldLink RX2 7 "WishWell$Row" "cells" "[I", .methodLink RX5 74 yX2_put, .instanceMethod yX2_put, .selects RX2 yX2_put yX2_put, .code yX2_put cX2_put 3 none] ++ wsX50 ++ wsX30 ++ wsX20 ++ (vx_atS RX5 64 "java/lang/IndexOutOfBoundsException" ["java/lang/RuntimeException", "java/lang/Exception"]).filter goodWord ++ (vx_atS RX5 36 "java/lang/IllegalArgumentException" ["java/lang/RuntimeException", "java/lang/Exception"]).filter goodWord ++ (vx_atM "java/lang/ArrayIndexOutOfBoundsException" ["java/lang/IndexOutOfBoundsException", "java/lang/RuntimeException", "java/lang/Exception"]).filter goodWord)
def wsX5_wish_r1 : List Cond := [Cond.classLink RX5 60 "java/lang/IndexOutOfBoundsException", Cond.initialized "java/lang/IndexOutOfBoundsException", Cond.classLink RX5 32 "java/lang/IllegalArgumentException", Cond.initialized "java/lang/IllegalArgumentException", Cond.classLink RX5 51 "java/lang/IllegalStateException", Cond.initialized "java/lang/IllegalStateException", Cond.fieldLink RX5 10 "WishWell" "well" "LWishWell$Well;", Cond.fieldLink RX5 41 "WishWell$Well" "lands" "LWishWell$Lands;", Cond.fieldLink RX5 86 "WishWell$Well" "wishes" "LWishWell$Wishes;", Cond.fieldLink RX5 90 "WishWell$Wishes" "size" "I", Cond.fieldLink RX5 98 "WishWell$Well" "day" "I", Cond.methodLink RX5 78 yX0_has, Cond.instanceMethod yX0_has, Cond.selects RX0 yX0_has yX0_has, Cond.initialized RX0, Cond.code yX0_has cX0_has 2 (some .boolean), Cond.fieldLink RX0 32 "WishWell$Lands" "size" "I", Cond.methodLink RX5 28 yX5_within, Cond.static yX5_within, Cond.initialized RX5, Cond.code yX5_within cX5_within 3 (some .boolean), Cond.methodLink RX5 95 yX3_throwCoin, Cond.instanceMethod yX3_throwCoin, Cond.selects RX3 yX3_throwCoin yX3_throwCoin]
def wsX5_wish_r2 : List Cond := [Cond.initialized RX3, Cond.code yX3_throwCoin cX3_throwCoin 2 none, Cond.fieldLink RX3 28 "WishWell$Well" "layers" "LWishWell$Layers;", Cond.fieldLink RX3 12 "WishWell$Well" "lands" "LWishWell$Lands;", Cond.fieldLink RX3 49 "WishWell$Lands" "thrown" "LWishWell$Row;", Cond.fieldLink RX3 55 "WishWell$Lands" "values" "LWishWell$Row;", Cond.methodLink RX3 45 yX1_add, Cond.instanceMethod yX1_add, Cond.selects RX1 yX1_add yX1_add, Cond.initialized RX1, Cond.code yX1_add cX1_add 4 none, Cond.fieldLink RX1 14 "WishWell$Layers" "cells" "LWishWell$Row;", Cond.methodLink RX1 20 yX1_place, Cond.static yX1_place, Cond.code yX1_place cX1_place 3 (some .int), Cond.methodLink RX1 28 yX2_add, Cond.instanceMethod yX2_add, Cond.selects RX2 yX2_add yX2_add, Cond.initialized RX2, Cond.code yX2_add cX2_add 3 none, Cond.fieldLink RX2 7 "WishWell$Row" "cells" "[I", Cond.methodLink RX3 52 yX2_add, Cond.methodLink RX3 58 yX2_at, Cond.instanceMethod yX2_at]
def wsX5_wish_r3 : List Cond := [Cond.selects RX2 yX2_at yX2_at, Cond.code yX2_at cX2_at 2 (some .int), Cond.methodLink RX3 62 yX3_raiseFavour, Cond.instanceMethod yX3_raiseFavour, Cond.selects RX3 yX3_raiseFavour yX3_raiseFavour, Cond.code yX3_raiseFavour cX3_raiseFavour 2 none, Cond.fieldLink RX3 41 "WishWell$Well" "favour" "I", Cond.methodLink RX3 65 Lib.Math.min.name, Cond.static Lib.Math.min.name, Cond.initialized "java/lang/Math", Cond.code Lib.Math.min.name Lib.Math.min.code 2 (some .int), Cond.methodLink RX5 101 yX4_tell, Cond.instanceMethod yX4_tell, Cond.selects RX4 yX4_tell yX4_tell, Cond.initialized RX4, Cond.code yX4_tell cX4_tell 5 (some .int), Cond.fieldLink RX4 32 "WishWell$Wishes" "size" "I", Cond.fieldLink RX4 14 "WishWell$Wishes" "kinds" "LWishWell$Row;", Cond.fieldLink RX4 20 "WishWell$Wishes" "coinLands" "LWishWell$Row;", Cond.fieldLink RX4 23 "WishWell$Wishes" "thrownDays" "LWishWell$Row;", Cond.fieldLink RX4 26 "WishWell$Wishes" "fates" "LWishWell$Row;", Cond.fieldLink RX4 29 "WishWell$Wishes" "grantDays" "LWishWell$Row;", Cond.methodLink RX4 36 yX2_put, Cond.instanceMethod yX2_put]
def wsX5_wish_r4 : List Cond := [Cond.selects RX2 yX2_put yX2_put, Cond.code yX2_put cX2_put 3 none]
def wsX5_wish : List Cond := .code yX5_wish cX5_wish 3 (some .int) :: ((wsX5_wish_r1 ++ (wsX5_wish_r2 ++ (wsX5_wish_r3 ++ wsX5_wish_r4))) ++ wsX50 ++ wsX30 ++ wsX40 ++ wsX00 ++ wsX10 ++ wsX20 ++ (vx_atS RX5 64 "java/lang/IndexOutOfBoundsException" ["java/lang/RuntimeException", "java/lang/Exception"]).filter goodWord ++ (vx_atS RX5 36 "java/lang/IllegalArgumentException" ["java/lang/RuntimeException", "java/lang/Exception"]).filter goodWord ++ (vx_atS RX5 55 "java/lang/IllegalStateException" ["java/lang/RuntimeException", "java/lang/Exception"]).filter goodWord ++ (vx_atM "java/lang/ArrayIndexOutOfBoundsException" ["java/lang/IndexOutOfBoundsException", "java/lang/RuntimeException", "java/lang/Exception"]).filter goodWord)
def wsX5_withdraw_r1 : List Cond := [Cond.classLink RX5 60 "java/lang/IndexOutOfBoundsException", Cond.initialized "java/lang/IndexOutOfBoundsException", Cond.classLink RX5 51 "java/lang/IllegalStateException", Cond.initialized "java/lang/IllegalStateException", Cond.fieldLink RX5 10 "WishWell" "well" "LWishWell$Well;", Cond.fieldLink RX5 86 "WishWell$Well" "wishes" "LWishWell$Wishes;", Cond.fieldLink RX5 107 "WishWell$Wishes" "fates" "LWishWell$Row;", Cond.methodLink RX5 104 yX4_has, Cond.instanceMethod yX4_has, Cond.selects RX4 yX4_has yX4_has, Cond.initialized RX4, Cond.code yX4_has cX4_has 2 (some .boolean), Cond.fieldLink RX4 32 "WishWell$Wishes" "size" "I", Cond.methodLink RX5 70 yX2_at, Cond.instanceMethod yX2_at, Cond.selects RX2 yX2_at yX2_at, Cond.initialized RX2, Cond.code yX2_at cX2_at 2 (some .int), Cond.fieldLink RX2 7 "WishWell$Row" "cells" "[I", Cond.methodLink RX5 112 yX3_withdrawWish, Cond.instanceMethod yX3_withdrawWish, Cond.selects RX3 yX3_withdrawWish yX3_withdrawWish, Cond.initialized RX3, Cond.code yX3_withdrawWish cX3_withdrawWish 4 (some .int)]
def wsX5_withdraw_r2 : List Cond := [Cond.fieldLink RX3 21 "WishWell$Well" "wishes" "LWishWell$Wishes;", Cond.fieldLink RX3 71 "WishWell$Wishes" "coinLands" "LWishWell$Row;", Cond.fieldLink RX3 28 "WishWell$Well" "layers" "LWishWell$Layers;", Cond.fieldLink RX3 12 "WishWell$Well" "lands" "LWishWell$Lands;", Cond.fieldLink RX3 77 "WishWell$Lands" "takenBack" "LWishWell$Row;", Cond.fieldLink RX3 80 "WishWell$Wishes" "fates" "LWishWell$Row;", Cond.fieldLink RX3 41 "WishWell$Well" "favour" "I", Cond.methodLink RX3 86 Lib.Math.max.name, Cond.static Lib.Math.max.name, Cond.initialized "java/lang/Math", Cond.code Lib.Math.max.name Lib.Math.max.code 2 (some .int), Cond.methodLink RX3 58 yX2_at, Cond.methodLink RX3 74 yX1_uppermostOf, Cond.instanceMethod yX1_uppermostOf, Cond.selects RX1 yX1_uppermostOf yX1_uppermostOf, Cond.initialized RX1, Cond.code yX1_uppermostOf cX1_uppermostOf 3 (some .int), Cond.methodLink RX1 32 yX1_at, Cond.instanceMethod yX1_at, Cond.selects RX1 yX1_at yX1_at, Cond.code yX1_at cX1_at 3 (some .int), Cond.fieldLink RX1 14 "WishWell$Layers" "cells" "LWishWell$Row;", Cond.methodLink RX1 20 yX1_place, Cond.static yX1_place]
def wsX5_withdraw_r3 : List Cond := [Cond.code yX1_place cX1_place 3 (some .int), Cond.methodLink RX1 24 yX2_at, Cond.methodLink RX3 45 yX1_add, Cond.instanceMethod yX1_add, Cond.selects RX1 yX1_add yX1_add, Cond.code yX1_add cX1_add 4 none, Cond.methodLink RX1 28 yX2_add, Cond.instanceMethod yX2_add, Cond.selects RX2 yX2_add yX2_add, Cond.code yX2_add cX2_add 3 none, Cond.methodLink RX3 52 yX2_add, Cond.methodLink RX3 83 yX2_put, Cond.instanceMethod yX2_put, Cond.selects RX2 yX2_put yX2_put, Cond.code yX2_put cX2_put 3 none]
def wsX5_withdraw : List Cond := .code yX5_withdraw cX5_withdraw 2 (some .int) :: ((wsX5_withdraw_r1 ++ (wsX5_withdraw_r2 ++ wsX5_withdraw_r3)) ++ wsX50 ++ wsX30 ++ wsX40 ++ wsX20 ++ wsX00 ++ wsX10 ++ (vx_atS RX5 64 "java/lang/IndexOutOfBoundsException" ["java/lang/RuntimeException", "java/lang/Exception"]).filter goodWord ++ (vx_atS RX5 55 "java/lang/IllegalStateException" ["java/lang/RuntimeException", "java/lang/Exception"]).filter goodWord ++ (vx_atM "java/lang/ArrayIndexOutOfBoundsException" ["java/lang/IndexOutOfBoundsException", "java/lang/RuntimeException", "java/lang/Exception"]).filter goodWord)
def wsX5_fish_r1 : List Cond := [Cond.classLink RX5 60 "java/lang/IndexOutOfBoundsException", Cond.initialized "java/lang/IndexOutOfBoundsException", Cond.classLink RX5 32 "java/lang/IllegalArgumentException", Cond.initialized "java/lang/IllegalArgumentException", Cond.fieldLink RX5 10 "WishWell" "well" "LWishWell$Well;", Cond.methodLink RX5 28 yX5_within, Cond.static yX5_within, Cond.initialized RX5, Cond.code yX5_within cX5_within 3 (some .boolean), Cond.methodLink RX5 119 yX3_fishCoins, Cond.instanceMethod yX3_fishCoins, Cond.selects RX3 yX3_fishCoins yX3_fishCoins, Cond.initialized RX3, Cond.code yX3_fishCoins cX3_fishCoins 6 (some .int), Cond.fieldLink RX3 28 "WishWell$Well" "layers" "LWishWell$Layers;", Cond.fieldLink RX3 12 "WishWell$Well" "lands" "LWishWell$Lands;", Cond.fieldLink RX3 55 "WishWell$Lands" "values" "LWishWell$Row;", Cond.fieldLink RX3 92 "WishWell$Well" "fished" "I", Cond.methodLink RX3 89 yX3_dearestIn, Cond.instanceMethod yX3_dearestIn, Cond.selects RX3 yX3_dearestIn yX3_dearestIn, Cond.code yX3_dearestIn cX3_dearestIn 5 (some .int), Cond.fieldLink RX3 95 "WishWell$Lands" "size" "I", Cond.methodLink RX3 98 yX1_at]
def wsX5_fish_r2 : List Cond := [Cond.instanceMethod yX1_at, Cond.selects RX1 yX1_at yX1_at, Cond.initialized RX1, Cond.code yX1_at cX1_at 3 (some .int), Cond.fieldLink RX1 14 "WishWell$Layers" "cells" "LWishWell$Row;", Cond.methodLink RX1 20 yX1_place, Cond.static yX1_place, Cond.code yX1_place cX1_place 3 (some .int), Cond.methodLink RX1 24 yX2_at, Cond.instanceMethod yX2_at, Cond.selects RX2 yX2_at yX2_at, Cond.initialized RX2, Cond.code yX2_at cX2_at 2 (some .int), Cond.fieldLink RX2 7 "WishWell$Row" "cells" "[I", Cond.methodLink RX3 58 yX2_at, Cond.methodLink RX3 45 yX1_add, Cond.instanceMethod yX1_add, Cond.selects RX1 yX1_add yX1_add, Cond.code yX1_add cX1_add 4 none, Cond.methodLink RX1 28 yX2_add, Cond.instanceMethod yX2_add, Cond.selects RX2 yX2_add yX2_add, Cond.code yX2_add cX2_add 3 none]
def wsX5_fish : List Cond := .code yX5_fish cX5_fish 3 (some .int) :: ((wsX5_fish_r1 ++ wsX5_fish_r2) ++ wsX50 ++ wsX30 ++ wsX00 ++ wsX10 ++ wsX20 ++ (vx_atS RX5 64 "java/lang/IndexOutOfBoundsException" ["java/lang/RuntimeException", "java/lang/Exception"]).filter goodWord ++ (vx_atS RX5 36 "java/lang/IllegalArgumentException" ["java/lang/RuntimeException", "java/lang/Exception"]).filter goodWord ++ (vx_atM "java/lang/ArrayIndexOutOfBoundsException" ["java/lang/IndexOutOfBoundsException", "java/lang/RuntimeException", "java/lang/Exception"]).filter goodWord)
def wsX5_audit_r1 : List Cond := [Cond.classLink RX5 60 "java/lang/IndexOutOfBoundsException", Cond.initialized "java/lang/IndexOutOfBoundsException", Cond.fieldLink RX5 10 "WishWell" "well" "LWishWell$Well;", Cond.methodLink RX5 28 yX5_within, Cond.static yX5_within, Cond.initialized RX5, Cond.code yX5_within cX5_within 3 (some .boolean), Cond.methodLink RX5 122 yX3_auditLayer, Cond.instanceMethod yX3_auditLayer, Cond.selects RX3 yX3_auditLayer yX3_auditLayer, Cond.initialized RX3, Cond.code yX3_auditLayer cX3_auditLayer 5 (some .int), Cond.fieldLink RX3 28 "WishWell$Well" "layers" "LWishWell$Layers;", Cond.fieldLink RX3 103 "WishWell$Well" "purse" "I", Cond.fieldLink RX3 12 "WishWell$Well" "lands" "LWishWell$Lands;", Cond.fieldLink RX3 95 "WishWell$Lands" "size" "I", Cond.fieldLink RX3 109 "WishWell$Lands" "audited" "LWishWell$Row;", Cond.methodLink RX3 100 yX1_coinsIn, Cond.instanceMethod yX1_coinsIn, Cond.selects RX1 yX1_coinsIn yX1_coinsIn, Cond.initialized RX1, Cond.code yX1_coinsIn cX1_coinsIn 4 (some .int), Cond.methodLink RX1 32 yX1_at, Cond.instanceMethod yX1_at]
def wsX5_audit_r2 : List Cond := [Cond.selects RX1 yX1_at yX1_at, Cond.code yX1_at cX1_at 3 (some .int), Cond.fieldLink RX1 14 "WishWell$Layers" "cells" "LWishWell$Row;", Cond.methodLink RX1 20 yX1_place, Cond.static yX1_place, Cond.code yX1_place cX1_place 3 (some .int), Cond.methodLink RX1 24 yX2_at, Cond.instanceMethod yX2_at, Cond.selects RX2 yX2_at yX2_at, Cond.initialized RX2, Cond.code yX2_at cX2_at 2 (some .int), Cond.fieldLink RX2 7 "WishWell$Row" "cells" "[I", Cond.methodLink RX3 106 yX3_valueIn, Cond.instanceMethod yX3_valueIn, Cond.selects RX3 yX3_valueIn yX3_valueIn, Cond.code yX3_valueIn cX3_valueIn 4 (some .int), Cond.fieldLink RX3 55 "WishWell$Lands" "values" "LWishWell$Row;", Cond.methodLink RX3 98 yX1_at, Cond.methodLink RX3 58 yX2_at, Cond.methodLink RX3 45 yX1_add, Cond.instanceMethod yX1_add, Cond.selects RX1 yX1_add yX1_add, Cond.code yX1_add cX1_add 4 none, Cond.methodLink RX1 28 yX2_add]
def wsX5_audit_r3 : List Cond := [Cond.instanceMethod yX2_add, Cond.selects RX2 yX2_add yX2_add, Cond.code yX2_add cX2_add 3 none, Cond.methodLink RX3 52 yX2_add]
def wsX5_audit : List Cond := .code yX5_audit cX5_audit 2 (some .int) :: ((wsX5_audit_r1 ++ (wsX5_audit_r2 ++ wsX5_audit_r3)) ++ wsX50 ++ wsX30 ++ wsX00 ++ wsX10 ++ wsX20 ++ (vx_atS RX5 64 "java/lang/IndexOutOfBoundsException" ["java/lang/RuntimeException", "java/lang/Exception"]).filter goodWord ++ (vx_atM "java/lang/ArrayIndexOutOfBoundsException" ["java/lang/IndexOutOfBoundsException", "java/lang/RuntimeException", "java/lang/Exception"]).filter goodWord)
def wsX5_missing_r1 : List Cond := [Cond.classLink RX5 60 "java/lang/IndexOutOfBoundsException", Cond.initialized "java/lang/IndexOutOfBoundsException", Cond.fieldLink RX5 10 "WishWell" "well" "LWishWell$Well;", Cond.fieldLink RX5 41 "WishWell$Well" "lands" "LWishWell$Lands;", Cond.methodLink RX5 78 yX0_has, Cond.instanceMethod yX0_has, Cond.selects RX0 yX0_has yX0_has, Cond.initialized RX0, Cond.code yX0_has cX0_has 2 (some .boolean), Cond.fieldLink RX0 32 "WishWell$Lands" "size" "I", Cond.methodLink RX5 125 yX3_missingCoins, Cond.instanceMethod yX3_missingCoins, Cond.selects RX3 yX3_missingCoins yX3_missingCoins, Cond.initialized RX3, Cond.code yX3_missingCoins cX3_missingCoins 2 (some .int), Cond.fieldLink RX3 12 "WishWell$Well" "lands" "LWishWell$Lands;", Cond.fieldLink RX3 49 "WishWell$Lands" "thrown" "LWishWell$Row;", Cond.fieldLink RX3 28 "WishWell$Well" "layers" "LWishWell$Layers;", Cond.fieldLink RX3 109 "WishWell$Lands" "audited" "LWishWell$Row;", Cond.fieldLink RX3 77 "WishWell$Lands" "takenBack" "LWishWell$Row;", Cond.methodLink RX3 58 yX2_at, Cond.instanceMethod yX2_at, Cond.selects RX2 yX2_at yX2_at, Cond.initialized RX2]
def wsX5_missing_r2 : List Cond := [Cond.code yX2_at cX2_at 2 (some .int), Cond.fieldLink RX2 7 "WishWell$Row" "cells" "[I", Cond.methodLink RX3 112 yX1_coinsOf, Cond.instanceMethod yX1_coinsOf, Cond.selects RX1 yX1_coinsOf yX1_coinsOf, Cond.initialized RX1, Cond.code yX1_coinsOf cX1_coinsOf 4 (some .int), Cond.methodLink RX1 32 yX1_at, Cond.instanceMethod yX1_at, Cond.selects RX1 yX1_at yX1_at, Cond.code yX1_at cX1_at 3 (some .int), Cond.fieldLink RX1 14 "WishWell$Layers" "cells" "LWishWell$Row;", Cond.methodLink RX1 20 yX1_place, Cond.static yX1_place, Cond.code yX1_place cX1_place 3 (some .int), Cond.methodLink RX1 24 yX2_at]
def wsX5_missing : List Cond := .code yX5_missing cX5_missing 2 (some .int) :: ((wsX5_missing_r1 ++ wsX5_missing_r2) ++ wsX50 ++ wsX30 ++ wsX00 ++ wsX20 ++ wsX10 ++ (vx_atS RX5 64 "java/lang/IndexOutOfBoundsException" ["java/lang/RuntimeException", "java/lang/Exception"]).filter goodWord ++ (vx_atM "java/lang/ArrayIndexOutOfBoundsException" ["java/lang/IndexOutOfBoundsException", "java/lang/RuntimeException", "java/lang/Exception"]).filter goodWord)
def wsX5_land_r1 : List Cond := [Cond.classLink RX5 60 "java/lang/IndexOutOfBoundsException", Cond.initialized "java/lang/IndexOutOfBoundsException", Cond.fieldLink RX5 10 "WishWell" "well" "LWishWell$Well;", Cond.fieldLink RX5 41 "WishWell$Well" "lands" "LWishWell$Lands;", Cond.methodLink RX5 78 yX0_has, Cond.instanceMethod yX0_has, Cond.selects RX0 yX0_has yX0_has, Cond.initialized RX0, Cond.code yX0_has cX0_has 2 (some .boolean), Cond.fieldLink RX0 32 "WishWell$Lands" "size" "I", Cond.methodLink RX5 28 yX5_within, Cond.static yX5_within, Cond.initialized RX5, Cond.code yX5_within cX5_within 3 (some .boolean), Cond.methodLink RX5 130 yX3_landFigure, Cond.instanceMethod yX3_landFigure, Cond.selects RX3 yX3_landFigure yX3_landFigure, Cond.initialized RX3, Cond.code yX3_landFigure cX3_landFigure 3 (some .int), Cond.fieldLink RX3 12 "WishWell$Well" "lands" "LWishWell$Lands;", Cond.fieldLink RX3 55 "WishWell$Lands" "values" "LWishWell$Row;", Cond.fieldLink RX3 115 "WishWell$Lands" "weights" "LWishWell$Row;", Cond.fieldLink RX3 49 "WishWell$Lands" "thrown" "LWishWell$Row;", Cond.fieldLink RX3 28 "WishWell$Well" "layers" "LWishWell$Layers;"]
def wsX5_land_r2 : List Cond := [Cond.fieldLink RX3 109 "WishWell$Lands" "audited" "LWishWell$Row;", Cond.methodLink RX3 58 yX2_at, Cond.instanceMethod yX2_at, Cond.selects RX2 yX2_at yX2_at, Cond.initialized RX2, Cond.code yX2_at cX2_at 2 (some .int), Cond.fieldLink RX2 7 "WishWell$Row" "cells" "[I", Cond.methodLink RX3 112 yX1_coinsOf, Cond.instanceMethod yX1_coinsOf, Cond.selects RX1 yX1_coinsOf yX1_coinsOf, Cond.initialized RX1, Cond.code yX1_coinsOf cX1_coinsOf 4 (some .int), Cond.methodLink RX1 32 yX1_at, Cond.instanceMethod yX1_at, Cond.selects RX1 yX1_at yX1_at, Cond.code yX1_at cX1_at 3 (some .int), Cond.fieldLink RX1 14 "WishWell$Layers" "cells" "LWishWell$Row;", Cond.methodLink RX1 20 yX1_place, Cond.static yX1_place, Cond.code yX1_place cX1_place 3 (some .int), Cond.methodLink RX1 24 yX2_at]
def wsX5_land : List Cond := .code yX5_land cX5_land 3 (some .int) :: ((wsX5_land_r1 ++ wsX5_land_r2) ++ wsX50 ++ wsX30 ++ wsX00 ++ wsX20 ++ wsX10 ++ (vx_atS RX5 64 "java/lang/IndexOutOfBoundsException" ["java/lang/RuntimeException", "java/lang/Exception"]).filter goodWord ++ (vx_atM "java/lang/ArrayIndexOutOfBoundsException" ["java/lang/IndexOutOfBoundsException", "java/lang/RuntimeException", "java/lang/Exception"]).filter goodWord)
def wsX5_coins_r1 : List Cond := [Cond.classLink RX5 60 "java/lang/IndexOutOfBoundsException", Cond.initialized "java/lang/IndexOutOfBoundsException", Cond.fieldLink RX5 10 "WishWell" "well" "LWishWell$Well;", Cond.fieldLink RX5 41 "WishWell$Well" "lands" "LWishWell$Lands;", Cond.fieldLink RX5 133 "WishWell$Well" "layers" "LWishWell$Layers;", Cond.methodLink RX5 28 yX5_within, Cond.static yX5_within, Cond.initialized RX5, Cond.code yX5_within cX5_within 3 (some .boolean), Cond.methodLink RX5 78 yX0_has, Cond.instanceMethod yX0_has, Cond.selects RX0 yX0_has yX0_has, Cond.initialized RX0, Cond.code yX0_has cX0_has 2 (some .boolean), Cond.fieldLink RX0 32 "WishWell$Lands" "size" "I", Cond.methodLink RX5 137 yX1_at, Cond.instanceMethod yX1_at, Cond.selects RX1 yX1_at yX1_at, Cond.initialized RX1, Cond.code yX1_at cX1_at 3 (some .int), Cond.fieldLink RX1 14 "WishWell$Layers" "cells" "LWishWell$Row;", Cond.methodLink RX1 20 yX1_place, Cond.static yX1_place, Cond.code yX1_place cX1_place 3 (some .int)]
def wsX5_coins_r2 : List Cond := [Cond.methodLink RX1 24 yX2_at, Cond.instanceMethod yX2_at, Cond.selects RX2 yX2_at yX2_at, Cond.initialized RX2, Cond.code yX2_at cX2_at 2 (some .int), Cond.fieldLink RX2 7 "WishWell$Row" "cells" "[I"]
def wsX5_coins : List Cond := .code yX5_coins cX5_coins 3 (some .int) :: ((wsX5_coins_r1 ++ wsX5_coins_r2) ++ wsX50 ++ wsX30 ++ wsX00 ++ wsX10 ++ wsX20 ++ (vx_atS RX5 64 "java/lang/IndexOutOfBoundsException" ["java/lang/RuntimeException", "java/lang/Exception"]).filter goodWord ++ (vx_atM "java/lang/ArrayIndexOutOfBoundsException" ["java/lang/IndexOutOfBoundsException", "java/lang/RuntimeException", "java/lang/Exception"]).filter goodWord)
def wsX5_told_r1 : List Cond := [Cond.classLink RX5 60 "java/lang/IndexOutOfBoundsException", Cond.initialized "java/lang/IndexOutOfBoundsException", Cond.fieldLink RX5 10 "WishWell" "well" "LWishWell$Well;", Cond.fieldLink RX5 86 "WishWell$Well" "wishes" "LWishWell$Wishes;", Cond.methodLink RX5 104 yX4_has, Cond.instanceMethod yX4_has, Cond.selects RX4 yX4_has yX4_has, Cond.initialized RX4, Cond.code yX4_has cX4_has 2 (some .boolean), Cond.fieldLink RX4 32 "WishWell$Wishes" "size" "I", Cond.methodLink RX5 28 yX5_within, Cond.static yX5_within, Cond.initialized RX5, Cond.code yX5_within cX5_within 3 (some .boolean), Cond.methodLink RX5 141 yX4_figure, Cond.instanceMethod yX4_figure, Cond.selects RX4 yX4_figure yX4_figure, Cond.code yX4_figure cX4_figure 3 (some .int), Cond.fieldLink RX4 14 "WishWell$Wishes" "kinds" "LWishWell$Row;", Cond.fieldLink RX4 20 "WishWell$Wishes" "coinLands" "LWishWell$Row;", Cond.fieldLink RX4 23 "WishWell$Wishes" "thrownDays" "LWishWell$Row;", Cond.fieldLink RX4 26 "WishWell$Wishes" "fates" "LWishWell$Row;", Cond.fieldLink RX4 29 "WishWell$Wishes" "grantDays" "LWishWell$Row;", Cond.methodLink RX4 40 yX2_at]
def wsX5_told_r2 : List Cond := [Cond.instanceMethod yX2_at, Cond.selects RX2 yX2_at yX2_at, Cond.initialized RX2, Cond.code yX2_at cX2_at 2 (some .int), Cond.fieldLink RX2 7 "WishWell$Row" "cells" "[I"]
def wsX5_told : List Cond := .code yX5_told cX5_told 3 (some .int) :: ((wsX5_told_r1 ++ wsX5_told_r2) ++ wsX50 ++ wsX30 ++ wsX40 ++ wsX20 ++ (vx_atS RX5 64 "java/lang/IndexOutOfBoundsException" ["java/lang/RuntimeException", "java/lang/Exception"]).filter goodWord ++ (vx_atM "java/lang/ArrayIndexOutOfBoundsException" ["java/lang/IndexOutOfBoundsException", "java/lang/RuntimeException", "java/lang/Exception"]).filter goodWord)
def wsX5_count_r1 : List Cond := [Cond.classLink RX5 60 "java/lang/IndexOutOfBoundsException", Cond.initialized "java/lang/IndexOutOfBoundsException", Cond.fieldLink RX5 10 "WishWell" "well" "LWishWell$Well;", Cond.methodLink RX5 28 yX5_within, Cond.static yX5_within, Cond.initialized RX5, Cond.code yX5_within cX5_within 3 (some .boolean), Cond.methodLink RX5 146 yX3_figure, Cond.instanceMethod yX3_figure, Cond.selects RX3 yX3_figure yX3_figure, Cond.initialized RX3, Cond.code yX3_figure cX3_figure 2 (some .int), Cond.fieldLink RX3 118 "WishWell$Well" "day" "I", Cond.fieldLink RX3 12 "WishWell$Well" "lands" "LWishWell$Lands;", Cond.fieldLink RX3 95 "WishWell$Lands" "size" "I", Cond.fieldLink RX3 21 "WishWell$Well" "wishes" "LWishWell$Wishes;", Cond.fieldLink RX3 121 "WishWell$Wishes" "size" "I", Cond.fieldLink RX3 41 "WishWell$Well" "favour" "I", Cond.fieldLink RX3 125 "WishWell$Well" "turn" "I", Cond.fieldLink RX3 103 "WishWell$Well" "purse" "I", Cond.fieldLink RX3 92 "WishWell$Well" "fished" "I", Cond.methodLink RX3 122 yX4_howMany, Cond.instanceMethod yX4_howMany, Cond.selects RX4 yX4_howMany yX4_howMany]
def wsX5_count_r2 : List Cond := [Cond.initialized RX4, Cond.code yX4_howMany cX4_howMany 4 (some .int), Cond.fieldLink RX4 32 "WishWell$Wishes" "size" "I", Cond.fieldLink RX4 26 "WishWell$Wishes" "fates" "LWishWell$Row;", Cond.methodLink RX4 40 yX2_at, Cond.instanceMethod yX2_at, Cond.selects RX2 yX2_at yX2_at, Cond.initialized RX2, Cond.code yX2_at cX2_at 2 (some .int), Cond.fieldLink RX2 7 "WishWell$Row" "cells" "[I", Cond.methodLink RX3 128 yX3_coinsInAll, Cond.instanceMethod yX3_coinsInAll, Cond.selects RX3 yX3_coinsInAll yX3_coinsInAll, Cond.code yX3_coinsInAll cX3_coinsInAll 3 (some .int), Cond.fieldLink RX3 28 "WishWell$Well" "layers" "LWishWell$Layers;", Cond.methodLink RX3 100 yX1_coinsIn, Cond.instanceMethod yX1_coinsIn, Cond.selects RX1 yX1_coinsIn yX1_coinsIn, Cond.initialized RX1, Cond.code yX1_coinsIn cX1_coinsIn 4 (some .int), Cond.methodLink RX1 32 yX1_at, Cond.instanceMethod yX1_at, Cond.selects RX1 yX1_at yX1_at, Cond.code yX1_at cX1_at 3 (some .int)]
def wsX5_count_r3 : List Cond := [Cond.fieldLink RX1 14 "WishWell$Layers" "cells" "LWishWell$Row;", Cond.methodLink RX1 20 yX1_place, Cond.static yX1_place, Cond.code yX1_place cX1_place 3 (some .int), Cond.methodLink RX1 24 yX2_at, Cond.methodLink RX3 132 yX3_valueOfAll, Cond.instanceMethod yX3_valueOfAll, Cond.selects RX3 yX3_valueOfAll yX3_valueOfAll, Cond.code yX3_valueOfAll cX3_valueOfAll 3 (some .int), Cond.methodLink RX3 106 yX3_valueIn, Cond.instanceMethod yX3_valueIn, Cond.selects RX3 yX3_valueIn yX3_valueIn, Cond.code yX3_valueIn cX3_valueIn 4 (some .int), Cond.fieldLink RX3 55 "WishWell$Lands" "values" "LWishWell$Row;", Cond.methodLink RX3 98 yX1_at, Cond.methodLink RX3 58 yX2_at]
def wsX5_count : List Cond := .code yX5_count cX5_count 2 (some .int) :: ((wsX5_count_r1 ++ (wsX5_count_r2 ++ wsX5_count_r3)) ++ wsX50 ++ wsX30 ++ wsX00 ++ wsX40 ++ wsX20 ++ wsX10 ++ (vx_atS RX5 64 "java/lang/IndexOutOfBoundsException" ["java/lang/RuntimeException", "java/lang/Exception"]).filter goodWord ++ (vx_atM "java/lang/ArrayIndexOutOfBoundsException" ["java/lang/IndexOutOfBoundsException", "java/lang/RuntimeException", "java/lang/Exception"]).filter goodWord)
def wsX5_pass_r1 : List Cond := [Cond.classLink RX5 32 "java/lang/IllegalArgumentException", Cond.initialized "java/lang/IllegalArgumentException", Cond.fieldLink RX5 10 "WishWell" "well" "LWishWell$Well;", Cond.methodLink RX5 28 yX5_within, Cond.static yX5_within, Cond.initialized RX5, Cond.code yX5_within cX5_within 3 (some .boolean), Cond.methodLink RX5 150 yX3_liveDays, Cond.instanceMethod yX3_liveDays, Cond.selects RX3 yX3_liveDays yX3_liveDays, Cond.initialized RX3, Cond.code yX3_liveDays cX3_liveDays 4 (some .int), Cond.methodLink RX3 142 yX3_liveDay, Cond.instanceMethod yX3_liveDay, Cond.selects RX3 yX3_liveDay yX3_liveDay, Cond.code yX3_liveDay cX3_liveDay 2 (some .boolean), Cond.fieldLink RX3 125 "WishWell$Well" "turn" "I", Cond.fieldLink RX3 118 "WishWell$Well" "day" "I", Cond.methodLink RX3 146 yX3_receiveVisitors, Cond.instanceMethod yX3_receiveVisitors, Cond.selects RX3 yX3_receiveVisitors yX3_receiveVisitors, Cond.code yX3_receiveVisitors cX3_receiveVisitors 3 none, Cond.fieldLink RX3 12 "WishWell$Well" "lands" "LWishWell$Lands;", Cond.fieldLink RX3 95 "WishWell$Lands" "size" "I"]
def wsX5_pass_r2 : List Cond := [Cond.fieldLink RX3 37 "WishWell$Well" "tide" "LWishWell$Row;", Cond.methodLink RX3 58 yX2_at, Cond.instanceMethod yX2_at, Cond.selects RX2 yX2_at yX2_at, Cond.initialized RX2, Cond.code yX2_at cX2_at 2 (some .int), Cond.fieldLink RX2 7 "WishWell$Row" "cells" "[I", Cond.methodLink RX3 155 yX3_throwCoin, Cond.instanceMethod yX3_throwCoin, Cond.selects RX3 yX3_throwCoin yX3_throwCoin, Cond.code yX3_throwCoin cX3_throwCoin 2 none, Cond.fieldLink RX3 28 "WishWell$Well" "layers" "LWishWell$Layers;", Cond.fieldLink RX3 49 "WishWell$Lands" "thrown" "LWishWell$Row;", Cond.fieldLink RX3 55 "WishWell$Lands" "values" "LWishWell$Row;", Cond.methodLink RX3 45 yX1_add, Cond.instanceMethod yX1_add, Cond.selects RX1 yX1_add yX1_add, Cond.initialized RX1, Cond.code yX1_add cX1_add 4 none, Cond.fieldLink RX1 14 "WishWell$Layers" "cells" "LWishWell$Row;", Cond.methodLink RX1 20 yX1_place, Cond.static yX1_place, Cond.code yX1_place cX1_place 3 (some .int), Cond.methodLink RX1 28 yX2_add]
def wsX5_pass_r3 : List Cond := [Cond.instanceMethod yX2_add, Cond.selects RX2 yX2_add yX2_add, Cond.code yX2_add cX2_add 3 none, Cond.methodLink RX3 52 yX2_add, Cond.methodLink RX3 62 yX3_raiseFavour, Cond.instanceMethod yX3_raiseFavour, Cond.selects RX3 yX3_raiseFavour yX3_raiseFavour, Cond.code yX3_raiseFavour cX3_raiseFavour 2 none, Cond.fieldLink RX3 41 "WishWell$Well" "favour" "I", Cond.methodLink RX3 65 Lib.Math.min.name, Cond.static Lib.Math.min.name, Cond.initialized "java/lang/Math", Cond.code Lib.Math.min.name Lib.Math.min.code 2 (some .int), Cond.methodLink RX3 149 yX3_sinkCoins, Cond.instanceMethod yX3_sinkCoins, Cond.selects RX3 yX3_sinkCoins yX3_sinkCoins, Cond.code yX3_sinkCoins cX3_sinkCoins 5 none, Cond.fieldLink RX3 115 "WishWell$Lands" "weights" "LWishWell$Row;", Cond.methodLink RX3 98 yX1_at, Cond.instanceMethod yX1_at, Cond.selects RX1 yX1_at yX1_at, Cond.code yX1_at cX1_at 3 (some .int), Cond.methodLink RX1 24 yX2_at, Cond.methodLink RX3 152 yX3_grantNext]
def wsX5_pass_r4 : List Cond := [Cond.instanceMethod yX3_grantNext, Cond.selects RX3 yX3_grantNext yX3_grantNext, Cond.code yX3_grantNext cX3_grantNext 3 (some .boolean), Cond.fieldLink RX3 21 "WishWell$Well" "wishes" "LWishWell$Wishes;", Cond.fieldLink RX3 80 "WishWell$Wishes" "fates" "LWishWell$Row;", Cond.fieldLink RX3 161 "WishWell$Wishes" "grantDays" "LWishWell$Row;", Cond.methodLink RX3 158 yX3_nextWish, Cond.instanceMethod yX3_nextWish, Cond.selects RX3 yX3_nextWish yX3_nextWish, Cond.code yX3_nextWish cX3_nextWish 6 (some .int), Cond.fieldLink RX3 121 "WishWell$Wishes" "size" "I", Cond.methodLink RX3 135 yX3_coinValue, Cond.instanceMethod yX3_coinValue, Cond.selects RX3 yX3_coinValue yX3_coinValue, Cond.code yX3_coinValue cX3_coinValue 2 (some .int), Cond.fieldLink RX3 71 "WishWell$Wishes" "coinLands" "LWishWell$Row;", Cond.methodLink RX3 138 yX4_waitsFor, Cond.instanceMethod yX4_waitsFor, Cond.selects RX4 yX4_waitsFor yX4_waitsFor, Cond.initialized RX4, Cond.code yX4_waitsFor cX4_waitsFor 3 (some .boolean), Cond.fieldLink RX4 26 "WishWell$Wishes" "fates" "LWishWell$Row;", Cond.fieldLink RX4 14 "WishWell$Wishes" "kinds" "LWishWell$Row;", Cond.methodLink RX4 40 yX2_at]
def wsX5_pass_r5 : List Cond := [Cond.methodLink RX3 83 yX2_put, Cond.instanceMethod yX2_put, Cond.selects RX2 yX2_put yX2_put, Cond.code yX2_put cX2_put 3 none]
def wsX5_pass : List Cond := .code yX5_pass cX5_pass 2 (some .int) :: ((wsX5_pass_r1 ++ (wsX5_pass_r2 ++ (wsX5_pass_r3 ++ (wsX5_pass_r4 ++ wsX5_pass_r5)))) ++ wsX50 ++ wsX30 ++ wsX00 ++ wsX20 ++ wsX10 ++ wsX40 ++ (vx_atS RX5 36 "java/lang/IllegalArgumentException" ["java/lang/RuntimeException", "java/lang/Exception"]).filter goodWord ++ (vx_atM "java/lang/ArrayIndexOutOfBoundsException" ["java/lang/IndexOutOfBoundsException", "java/lang/RuntimeException", "java/lang/Exception"]).filter goodWord)
def wsX5_next_r1 : List Cond := [Cond.classLink RX5 60 "java/lang/IndexOutOfBoundsException", Cond.initialized "java/lang/IndexOutOfBoundsException", Cond.fieldLink RX5 10 "WishWell" "well" "LWishWell$Well;", Cond.methodLink RX5 28 yX5_within, Cond.static yX5_within, Cond.initialized RX5, Cond.code yX5_within cX5_within 3 (some .boolean), Cond.methodLink RX5 153 yX3_nextWish, Cond.instanceMethod yX3_nextWish, Cond.selects RX3 yX3_nextWish yX3_nextWish, Cond.initialized RX3, Cond.code yX3_nextWish cX3_nextWish 6 (some .int), Cond.fieldLink RX3 21 "WishWell$Well" "wishes" "LWishWell$Wishes;", Cond.fieldLink RX3 121 "WishWell$Wishes" "size" "I", Cond.methodLink RX3 135 yX3_coinValue, Cond.instanceMethod yX3_coinValue, Cond.selects RX3 yX3_coinValue yX3_coinValue, Cond.code yX3_coinValue cX3_coinValue 2 (some .int), Cond.fieldLink RX3 12 "WishWell$Well" "lands" "LWishWell$Lands;", Cond.fieldLink RX3 55 "WishWell$Lands" "values" "LWishWell$Row;", Cond.fieldLink RX3 71 "WishWell$Wishes" "coinLands" "LWishWell$Row;", Cond.methodLink RX3 58 yX2_at, Cond.instanceMethod yX2_at, Cond.selects RX2 yX2_at yX2_at]
def wsX5_next_r2 : List Cond := [Cond.initialized RX2, Cond.code yX2_at cX2_at 2 (some .int), Cond.fieldLink RX2 7 "WishWell$Row" "cells" "[I", Cond.methodLink RX3 138 yX4_waitsFor, Cond.instanceMethod yX4_waitsFor, Cond.selects RX4 yX4_waitsFor yX4_waitsFor, Cond.initialized RX4, Cond.code yX4_waitsFor cX4_waitsFor 3 (some .boolean), Cond.fieldLink RX4 26 "WishWell$Wishes" "fates" "LWishWell$Row;", Cond.fieldLink RX4 14 "WishWell$Wishes" "kinds" "LWishWell$Row;", Cond.methodLink RX4 40 yX2_at]
def wsX5_next : List Cond := .code yX5_next cX5_next 2 (some .int) :: ((wsX5_next_r1 ++ wsX5_next_r2) ++ wsX50 ++ wsX30 ++ wsX40 ++ wsX00 ++ wsX20 ++ (vx_atS RX5 64 "java/lang/IndexOutOfBoundsException" ["java/lang/RuntimeException", "java/lang/Exception"]).filter goodWord ++ (vx_atM "java/lang/ArrayIndexOutOfBoundsException" ["java/lang/IndexOutOfBoundsException", "java/lang/RuntimeException", "java/lang/Exception"]).filter goodWord)
def wsX5_daysTillGranted_r1 : List Cond := [Cond.fieldLink RX5 16 "WishWell" "trial" "LWishWell$Well;", Cond.fieldLink RX5 10 "WishWell" "well" "LWishWell$Well;", Cond.fieldLink RX5 86 "WishWell$Well" "wishes" "LWishWell$Wishes;", Cond.fieldLink RX5 107 "WishWell$Wishes" "fates" "LWishWell$Row;", Cond.methodLink RX5 161 yX3_takeOver, Cond.instanceMethod yX3_takeOver, Cond.selects RX3 yX3_takeOver yX3_takeOver, Cond.initialized RX3, Cond.code yX3_takeOver cX3_takeOver 2 none, Cond.fieldLink RX3 12 "WishWell$Well" "lands" "LWishWell$Lands;", Cond.fieldLink RX3 21 "WishWell$Well" "wishes" "LWishWell$Wishes;", Cond.fieldLink RX3 28 "WishWell$Well" "layers" "LWishWell$Layers;", Cond.fieldLink RX3 37 "WishWell$Well" "tide" "LWishWell$Row;", Cond.fieldLink RX3 118 "WishWell$Well" "day" "I", Cond.fieldLink RX3 41 "WishWell$Well" "favour" "I", Cond.fieldLink RX3 125 "WishWell$Well" "turn" "I", Cond.fieldLink RX3 103 "WishWell$Well" "purse" "I", Cond.fieldLink RX3 92 "WishWell$Well" "fished" "I", Cond.methodLink RX3 164 yX0_takeOver, Cond.instanceMethod yX0_takeOver, Cond.selects RX0 yX0_takeOver yX0_takeOver, Cond.initialized RX0, Cond.code yX0_takeOver cX0_takeOver 2 none, Cond.fieldLink RX0 14 "WishWell$Lands" "values" "LWishWell$Row;"]
def wsX5_daysTillGranted_r2 : List Cond := [Cond.fieldLink RX0 20 "WishWell$Lands" "weights" "LWishWell$Row;", Cond.fieldLink RX0 23 "WishWell$Lands" "thrown" "LWishWell$Row;", Cond.fieldLink RX0 26 "WishWell$Lands" "audited" "LWishWell$Row;", Cond.fieldLink RX0 29 "WishWell$Lands" "takenBack" "LWishWell$Row;", Cond.fieldLink RX0 32 "WishWell$Lands" "size" "I", Cond.methodLink RX0 40 yX2_takeOver, Cond.instanceMethod yX2_takeOver, Cond.selects RX2 yX2_takeOver yX2_takeOver, Cond.initialized RX2, Cond.code yX2_takeOver cX2_takeOver 2 none, Cond.fieldLink RX2 7 "WishWell$Row" "cells" "[I", Cond.methodLink RX2 13 Lib.Math.min.name, Cond.static Lib.Math.min.name, Cond.initialized "java/lang/Math", Cond.code Lib.Math.min.name Lib.Math.min.code 2 (some .int), Cond.methodLink RX2 19 arraycopyName, Cond.native arraycopyName, Cond.static arraycopyName, Cond.initialized "java/lang/System", Cond.methodLink RX3 168 yX4_takeOver, Cond.instanceMethod yX4_takeOver, Cond.selects RX4 yX4_takeOver yX4_takeOver, Cond.initialized RX4, Cond.code yX4_takeOver cX4_takeOver 2 none]
def wsX5_daysTillGranted_r3 : List Cond := [Cond.fieldLink RX4 14 "WishWell$Wishes" "kinds" "LWishWell$Row;", Cond.fieldLink RX4 20 "WishWell$Wishes" "coinLands" "LWishWell$Row;", Cond.fieldLink RX4 23 "WishWell$Wishes" "thrownDays" "LWishWell$Row;", Cond.fieldLink RX4 26 "WishWell$Wishes" "fates" "LWishWell$Row;", Cond.fieldLink RX4 29 "WishWell$Wishes" "grantDays" "LWishWell$Row;", Cond.fieldLink RX4 32 "WishWell$Wishes" "size" "I", Cond.methodLink RX4 44 yX2_takeOver, Cond.methodLink RX3 171 yX1_takeOver, Cond.instanceMethod yX1_takeOver, Cond.selects RX1 yX1_takeOver yX1_takeOver, Cond.initialized RX1, Cond.code yX1_takeOver cX1_takeOver 2 none, Cond.fieldLink RX1 14 "WishWell$Layers" "cells" "LWishWell$Row;", Cond.methodLink RX1 34 yX2_takeOver, Cond.methodLink RX3 174 yX2_takeOver, Cond.methodLink RX5 201 yX3_liveDay, Cond.instanceMethod yX3_liveDay, Cond.selects RX3 yX3_liveDay yX3_liveDay, Cond.code yX3_liveDay cX3_liveDay 2 (some .boolean), Cond.methodLink RX3 146 yX3_receiveVisitors, Cond.instanceMethod yX3_receiveVisitors, Cond.selects RX3 yX3_receiveVisitors yX3_receiveVisitors, Cond.code yX3_receiveVisitors cX3_receiveVisitors 3 none, Cond.fieldLink RX3 95 "WishWell$Lands" "size" "I"]
def wsX5_daysTillGranted_r4 : List Cond := [Cond.methodLink RX3 58 yX2_at, Cond.instanceMethod yX2_at, Cond.selects RX2 yX2_at yX2_at, Cond.code yX2_at cX2_at 2 (some .int), Cond.methodLink RX3 155 yX3_throwCoin, Cond.instanceMethod yX3_throwCoin, Cond.selects RX3 yX3_throwCoin yX3_throwCoin, Cond.code yX3_throwCoin cX3_throwCoin 2 none, Cond.fieldLink RX3 49 "WishWell$Lands" "thrown" "LWishWell$Row;", Cond.fieldLink RX3 55 "WishWell$Lands" "values" "LWishWell$Row;", Cond.methodLink RX3 45 yX1_add, Cond.instanceMethod yX1_add, Cond.selects RX1 yX1_add yX1_add, Cond.code yX1_add cX1_add 4 none, Cond.methodLink RX1 20 yX1_place, Cond.static yX1_place, Cond.code yX1_place cX1_place 3 (some .int), Cond.methodLink RX1 28 yX2_add, Cond.instanceMethod yX2_add, Cond.selects RX2 yX2_add yX2_add, Cond.code yX2_add cX2_add 3 none, Cond.methodLink RX3 52 yX2_add, Cond.methodLink RX3 62 yX3_raiseFavour, Cond.instanceMethod yX3_raiseFavour]
def wsX5_daysTillGranted_r5 : List Cond := [Cond.selects RX3 yX3_raiseFavour yX3_raiseFavour, Cond.code yX3_raiseFavour cX3_raiseFavour 2 none, Cond.methodLink RX3 65 Lib.Math.min.name, Cond.methodLink RX3 149 yX3_sinkCoins, Cond.instanceMethod yX3_sinkCoins, Cond.selects RX3 yX3_sinkCoins yX3_sinkCoins, Cond.code yX3_sinkCoins cX3_sinkCoins 5 none, Cond.fieldLink RX3 115 "WishWell$Lands" "weights" "LWishWell$Row;", Cond.methodLink RX3 98 yX1_at, Cond.instanceMethod yX1_at, Cond.selects RX1 yX1_at yX1_at, Cond.code yX1_at cX1_at 3 (some .int), Cond.methodLink RX1 24 yX2_at, Cond.methodLink RX3 152 yX3_grantNext, Cond.instanceMethod yX3_grantNext, Cond.selects RX3 yX3_grantNext yX3_grantNext, Cond.code yX3_grantNext cX3_grantNext 3 (some .boolean), Cond.fieldLink RX3 80 "WishWell$Wishes" "fates" "LWishWell$Row;", Cond.fieldLink RX3 161 "WishWell$Wishes" "grantDays" "LWishWell$Row;", Cond.methodLink RX3 158 yX3_nextWish, Cond.instanceMethod yX3_nextWish, Cond.selects RX3 yX3_nextWish yX3_nextWish, Cond.code yX3_nextWish cX3_nextWish 6 (some .int), Cond.fieldLink RX3 121 "WishWell$Wishes" "size" "I"]
def wsX5_daysTillGranted_r6 : List Cond := [Cond.methodLink RX3 135 yX3_coinValue, Cond.instanceMethod yX3_coinValue, Cond.selects RX3 yX3_coinValue yX3_coinValue, Cond.code yX3_coinValue cX3_coinValue 2 (some .int), Cond.fieldLink RX3 71 "WishWell$Wishes" "coinLands" "LWishWell$Row;", Cond.methodLink RX3 138 yX4_waitsFor, Cond.instanceMethod yX4_waitsFor, Cond.selects RX4 yX4_waitsFor yX4_waitsFor, Cond.code yX4_waitsFor cX4_waitsFor 3 (some .boolean), Cond.methodLink RX4 40 yX2_at, Cond.methodLink RX3 83 yX2_put, Cond.instanceMethod yX2_put, Cond.selects RX2 yX2_put yX2_put, Cond.code yX2_put cX2_put 3 none, Cond.methodLink RX5 70 yX2_at]
def wsX5_daysTillGranted : List Cond := .code yX5_daysTillGranted cX5_daysTillGranted 3 (some .int) :: ((wsX5_daysTillGranted_r1 ++ (wsX5_daysTillGranted_r2 ++ (wsX5_daysTillGranted_r3 ++ (wsX5_daysTillGranted_r4 ++ (wsX5_daysTillGranted_r5 ++ wsX5_daysTillGranted_r6))))) ++ wsX50 ++ wsX30 ++ wsX40 ++ wsX00 ++ wsX20 ++ wsX10 ++ (vx_atM "java/lang/ArrayIndexOutOfBoundsException" ["java/lang/IndexOutOfBoundsException", "java/lang/RuntimeException", "java/lang/Exception"]).filter goodWord)
def wsX5_waits_r1 : List Cond := [Cond.classLink RX5 60 "java/lang/IndexOutOfBoundsException", Cond.initialized "java/lang/IndexOutOfBoundsException", Cond.fieldLink RX5 10 "WishWell" "well" "LWishWell$Well;", Cond.fieldLink RX5 86 "WishWell$Well" "wishes" "LWishWell$Wishes;", Cond.fieldLink RX5 107 "WishWell$Wishes" "fates" "LWishWell$Row;", Cond.methodLink RX5 104 yX4_has, Cond.instanceMethod yX4_has, Cond.selects RX4 yX4_has yX4_has, Cond.initialized RX4, Cond.code yX4_has cX4_has 2 (some .boolean), Cond.fieldLink RX4 32 "WishWell$Wishes" "size" "I", Cond.methodLink RX5 70 yX2_at, Cond.instanceMethod yX2_at, Cond.selects RX2 yX2_at yX2_at, Cond.initialized RX2, Cond.code yX2_at cX2_at 2 (some .int), Cond.fieldLink RX2 7 "WishWell$Row" "cells" "[I", Cond.methodLink RX5 156 yX5_daysTillGranted, Cond.instanceMethod yX5_daysTillGranted, Cond.selects RX5 yX5_daysTillGranted yX5_daysTillGranted, Cond.initialized RX5, Cond.code yX5_daysTillGranted cX5_daysTillGranted 3 (some .int), Cond.fieldLink RX5 16 "WishWell" "trial" "LWishWell$Well;", Cond.methodLink RX5 161 yX3_takeOver]
def wsX5_waits_r2 : List Cond := [Cond.instanceMethod yX3_takeOver, Cond.selects RX3 yX3_takeOver yX3_takeOver, Cond.initialized RX3, Cond.code yX3_takeOver cX3_takeOver 2 none, Cond.fieldLink RX3 12 "WishWell$Well" "lands" "LWishWell$Lands;", Cond.fieldLink RX3 21 "WishWell$Well" "wishes" "LWishWell$Wishes;", Cond.fieldLink RX3 28 "WishWell$Well" "layers" "LWishWell$Layers;", Cond.fieldLink RX3 37 "WishWell$Well" "tide" "LWishWell$Row;", Cond.fieldLink RX3 118 "WishWell$Well" "day" "I", Cond.fieldLink RX3 41 "WishWell$Well" "favour" "I", Cond.fieldLink RX3 125 "WishWell$Well" "turn" "I", Cond.fieldLink RX3 103 "WishWell$Well" "purse" "I", Cond.fieldLink RX3 92 "WishWell$Well" "fished" "I", Cond.methodLink RX3 164 yX0_takeOver, Cond.instanceMethod yX0_takeOver, Cond.selects RX0 yX0_takeOver yX0_takeOver, Cond.initialized RX0, Cond.code yX0_takeOver cX0_takeOver 2 none, Cond.fieldLink RX0 14 "WishWell$Lands" "values" "LWishWell$Row;", Cond.fieldLink RX0 20 "WishWell$Lands" "weights" "LWishWell$Row;", Cond.fieldLink RX0 23 "WishWell$Lands" "thrown" "LWishWell$Row;", Cond.fieldLink RX0 26 "WishWell$Lands" "audited" "LWishWell$Row;", Cond.fieldLink RX0 29 "WishWell$Lands" "takenBack" "LWishWell$Row;", Cond.fieldLink RX0 32 "WishWell$Lands" "size" "I"]
def wsX5_waits_r3 : List Cond := [Cond.methodLink RX0 40 yX2_takeOver, Cond.instanceMethod yX2_takeOver, Cond.selects RX2 yX2_takeOver yX2_takeOver, Cond.code yX2_takeOver cX2_takeOver 2 none, Cond.methodLink RX2 13 Lib.Math.min.name, Cond.static Lib.Math.min.name, Cond.initialized "java/lang/Math", Cond.code Lib.Math.min.name Lib.Math.min.code 2 (some .int), Cond.methodLink RX2 19 arraycopyName, Cond.native arraycopyName, Cond.static arraycopyName, Cond.initialized "java/lang/System", Cond.methodLink RX3 168 yX4_takeOver, Cond.instanceMethod yX4_takeOver, Cond.selects RX4 yX4_takeOver yX4_takeOver, Cond.code yX4_takeOver cX4_takeOver 2 none, Cond.fieldLink RX4 14 "WishWell$Wishes" "kinds" "LWishWell$Row;", Cond.fieldLink RX4 20 "WishWell$Wishes" "coinLands" "LWishWell$Row;", Cond.fieldLink RX4 23 "WishWell$Wishes" "thrownDays" "LWishWell$Row;", Cond.fieldLink RX4 26 "WishWell$Wishes" "fates" "LWishWell$Row;", Cond.fieldLink RX4 29 "WishWell$Wishes" "grantDays" "LWishWell$Row;", Cond.methodLink RX4 44 yX2_takeOver, Cond.methodLink RX3 171 yX1_takeOver, Cond.instanceMethod yX1_takeOver]
def wsX5_waits_r4 : List Cond := [Cond.selects RX1 yX1_takeOver yX1_takeOver, Cond.initialized RX1, Cond.code yX1_takeOver cX1_takeOver 2 none, Cond.fieldLink RX1 14 "WishWell$Layers" "cells" "LWishWell$Row;", Cond.methodLink RX1 34 yX2_takeOver, Cond.methodLink RX3 174 yX2_takeOver, Cond.methodLink RX5 201 yX3_liveDay, Cond.instanceMethod yX3_liveDay, Cond.selects RX3 yX3_liveDay yX3_liveDay, Cond.code yX3_liveDay cX3_liveDay 2 (some .boolean), Cond.methodLink RX3 146 yX3_receiveVisitors, Cond.instanceMethod yX3_receiveVisitors, Cond.selects RX3 yX3_receiveVisitors yX3_receiveVisitors, Cond.code yX3_receiveVisitors cX3_receiveVisitors 3 none, Cond.fieldLink RX3 95 "WishWell$Lands" "size" "I", Cond.methodLink RX3 58 yX2_at, Cond.methodLink RX3 155 yX3_throwCoin, Cond.instanceMethod yX3_throwCoin, Cond.selects RX3 yX3_throwCoin yX3_throwCoin, Cond.code yX3_throwCoin cX3_throwCoin 2 none, Cond.fieldLink RX3 49 "WishWell$Lands" "thrown" "LWishWell$Row;", Cond.fieldLink RX3 55 "WishWell$Lands" "values" "LWishWell$Row;", Cond.methodLink RX3 45 yX1_add, Cond.instanceMethod yX1_add]
def wsX5_waits_r5 : List Cond := [Cond.selects RX1 yX1_add yX1_add, Cond.code yX1_add cX1_add 4 none, Cond.methodLink RX1 20 yX1_place, Cond.static yX1_place, Cond.code yX1_place cX1_place 3 (some .int), Cond.methodLink RX1 28 yX2_add, Cond.instanceMethod yX2_add, Cond.selects RX2 yX2_add yX2_add, Cond.code yX2_add cX2_add 3 none, Cond.methodLink RX3 52 yX2_add, Cond.methodLink RX3 62 yX3_raiseFavour, Cond.instanceMethod yX3_raiseFavour, Cond.selects RX3 yX3_raiseFavour yX3_raiseFavour, Cond.code yX3_raiseFavour cX3_raiseFavour 2 none, Cond.methodLink RX3 65 Lib.Math.min.name, Cond.methodLink RX3 149 yX3_sinkCoins, Cond.instanceMethod yX3_sinkCoins, Cond.selects RX3 yX3_sinkCoins yX3_sinkCoins, Cond.code yX3_sinkCoins cX3_sinkCoins 5 none, Cond.fieldLink RX3 115 "WishWell$Lands" "weights" "LWishWell$Row;", Cond.methodLink RX3 98 yX1_at, Cond.instanceMethod yX1_at, Cond.selects RX1 yX1_at yX1_at, Cond.code yX1_at cX1_at 3 (some .int)]
def wsX5_waits_r6 : List Cond := [Cond.methodLink RX1 24 yX2_at, Cond.methodLink RX3 152 yX3_grantNext, Cond.instanceMethod yX3_grantNext, Cond.selects RX3 yX3_grantNext yX3_grantNext, Cond.code yX3_grantNext cX3_grantNext 3 (some .boolean), Cond.fieldLink RX3 80 "WishWell$Wishes" "fates" "LWishWell$Row;", Cond.fieldLink RX3 161 "WishWell$Wishes" "grantDays" "LWishWell$Row;", Cond.methodLink RX3 158 yX3_nextWish, Cond.instanceMethod yX3_nextWish, Cond.selects RX3 yX3_nextWish yX3_nextWish, Cond.code yX3_nextWish cX3_nextWish 6 (some .int), Cond.fieldLink RX3 121 "WishWell$Wishes" "size" "I", Cond.methodLink RX3 135 yX3_coinValue, Cond.instanceMethod yX3_coinValue, Cond.selects RX3 yX3_coinValue yX3_coinValue, Cond.code yX3_coinValue cX3_coinValue 2 (some .int), Cond.fieldLink RX3 71 "WishWell$Wishes" "coinLands" "LWishWell$Row;", Cond.methodLink RX3 138 yX4_waitsFor, Cond.instanceMethod yX4_waitsFor, Cond.selects RX4 yX4_waitsFor yX4_waitsFor, Cond.code yX4_waitsFor cX4_waitsFor 3 (some .boolean), Cond.methodLink RX4 40 yX2_at, Cond.methodLink RX3 83 yX2_put, Cond.instanceMethod yX2_put]
def wsX5_waits_r7 : List Cond := [Cond.selects RX2 yX2_put yX2_put, Cond.code yX2_put cX2_put 3 none]
def wsX5_waits : List Cond := .code yX5_waits cX5_waits 3 (some .int) :: ((wsX5_waits_r1 ++ (wsX5_waits_r2 ++ (wsX5_waits_r3 ++ (wsX5_waits_r4 ++ (wsX5_waits_r5 ++ (wsX5_waits_r6 ++ wsX5_waits_r7)))))) ++ wsX50 ++ wsX30 ++ wsX40 ++ wsX20 ++ wsX00 ++ wsX10 ++ (vx_atS RX5 64 "java/lang/IndexOutOfBoundsException" ["java/lang/RuntimeException", "java/lang/Exception"]).filter goodWord ++ (vx_atM "java/lang/ArrayIndexOutOfBoundsException" ["java/lang/IndexOutOfBoundsException", "java/lang/RuntimeException", "java/lang/Exception"]).filter goodWord)
def wsX5_foresee_r1 : List Cond := [Cond.classLink RX5 32 "java/lang/IllegalArgumentException", Cond.initialized "java/lang/IllegalArgumentException", Cond.classLink RX5 60 "java/lang/IndexOutOfBoundsException", Cond.initialized "java/lang/IndexOutOfBoundsException", Cond.fieldLink RX5 16 "WishWell" "trial" "LWishWell$Well;", Cond.fieldLink RX5 10 "WishWell" "well" "LWishWell$Well;", Cond.fieldLink RX5 165 "WishWell$Well" "favour" "I", Cond.fieldLink RX5 133 "WishWell$Well" "layers" "LWishWell$Layers;", Cond.methodLink RX5 28 yX5_within, Cond.static yX5_within, Cond.initialized RX5, Cond.code yX5_within cX5_within 3 (some .boolean), Cond.methodLink RX5 161 yX3_takeOver, Cond.instanceMethod yX3_takeOver, Cond.selects RX3 yX3_takeOver yX3_takeOver, Cond.initialized RX3, Cond.code yX3_takeOver cX3_takeOver 2 none, Cond.fieldLink RX3 12 "WishWell$Well" "lands" "LWishWell$Lands;", Cond.fieldLink RX3 21 "WishWell$Well" "wishes" "LWishWell$Wishes;", Cond.fieldLink RX3 28 "WishWell$Well" "layers" "LWishWell$Layers;", Cond.fieldLink RX3 37 "WishWell$Well" "tide" "LWishWell$Row;", Cond.fieldLink RX3 118 "WishWell$Well" "day" "I", Cond.fieldLink RX3 41 "WishWell$Well" "favour" "I", Cond.fieldLink RX3 125 "WishWell$Well" "turn" "I"]
def wsX5_foresee_r2 : List Cond := [Cond.fieldLink RX3 103 "WishWell$Well" "purse" "I", Cond.fieldLink RX3 92 "WishWell$Well" "fished" "I", Cond.methodLink RX3 164 yX0_takeOver, Cond.instanceMethod yX0_takeOver, Cond.selects RX0 yX0_takeOver yX0_takeOver, Cond.initialized RX0, Cond.code yX0_takeOver cX0_takeOver 2 none, Cond.fieldLink RX0 14 "WishWell$Lands" "values" "LWishWell$Row;", Cond.fieldLink RX0 20 "WishWell$Lands" "weights" "LWishWell$Row;", Cond.fieldLink RX0 23 "WishWell$Lands" "thrown" "LWishWell$Row;", Cond.fieldLink RX0 26 "WishWell$Lands" "audited" "LWishWell$Row;", Cond.fieldLink RX0 29 "WishWell$Lands" "takenBack" "LWishWell$Row;", Cond.fieldLink RX0 32 "WishWell$Lands" "size" "I", Cond.methodLink RX0 40 yX2_takeOver, Cond.instanceMethod yX2_takeOver, Cond.selects RX2 yX2_takeOver yX2_takeOver, Cond.initialized RX2, Cond.code yX2_takeOver cX2_takeOver 2 none, Cond.fieldLink RX2 7 "WishWell$Row" "cells" "[I", Cond.methodLink RX2 13 Lib.Math.min.name, Cond.static Lib.Math.min.name, Cond.initialized "java/lang/Math", Cond.code Lib.Math.min.name Lib.Math.min.code 2 (some .int), Cond.methodLink RX2 19 arraycopyName]
def wsX5_foresee_r3 : List Cond := [Cond.native arraycopyName, Cond.static arraycopyName, Cond.initialized "java/lang/System", Cond.methodLink RX3 168 yX4_takeOver, Cond.instanceMethod yX4_takeOver, Cond.selects RX4 yX4_takeOver yX4_takeOver, Cond.initialized RX4, Cond.code yX4_takeOver cX4_takeOver 2 none, Cond.fieldLink RX4 14 "WishWell$Wishes" "kinds" "LWishWell$Row;", Cond.fieldLink RX4 20 "WishWell$Wishes" "coinLands" "LWishWell$Row;", Cond.fieldLink RX4 23 "WishWell$Wishes" "thrownDays" "LWishWell$Row;", Cond.fieldLink RX4 26 "WishWell$Wishes" "fates" "LWishWell$Row;", Cond.fieldLink RX4 29 "WishWell$Wishes" "grantDays" "LWishWell$Row;", Cond.fieldLink RX4 32 "WishWell$Wishes" "size" "I", Cond.methodLink RX4 44 yX2_takeOver, Cond.methodLink RX3 171 yX1_takeOver, Cond.instanceMethod yX1_takeOver, Cond.selects RX1 yX1_takeOver yX1_takeOver, Cond.initialized RX1, Cond.code yX1_takeOver cX1_takeOver 2 none, Cond.fieldLink RX1 14 "WishWell$Layers" "cells" "LWishWell$Row;", Cond.methodLink RX1 34 yX2_takeOver, Cond.methodLink RX3 174 yX2_takeOver, Cond.methodLink RX5 150 yX3_liveDays]
def wsX5_foresee_r4 : List Cond := [Cond.instanceMethod yX3_liveDays, Cond.selects RX3 yX3_liveDays yX3_liveDays, Cond.code yX3_liveDays cX3_liveDays 4 (some .int), Cond.methodLink RX3 142 yX3_liveDay, Cond.instanceMethod yX3_liveDay, Cond.selects RX3 yX3_liveDay yX3_liveDay, Cond.code yX3_liveDay cX3_liveDay 2 (some .boolean), Cond.methodLink RX3 146 yX3_receiveVisitors, Cond.instanceMethod yX3_receiveVisitors, Cond.selects RX3 yX3_receiveVisitors yX3_receiveVisitors, Cond.code yX3_receiveVisitors cX3_receiveVisitors 3 none, Cond.fieldLink RX3 95 "WishWell$Lands" "size" "I", Cond.methodLink RX3 58 yX2_at, Cond.instanceMethod yX2_at, Cond.selects RX2 yX2_at yX2_at, Cond.code yX2_at cX2_at 2 (some .int), Cond.methodLink RX3 155 yX3_throwCoin, Cond.instanceMethod yX3_throwCoin, Cond.selects RX3 yX3_throwCoin yX3_throwCoin, Cond.code yX3_throwCoin cX3_throwCoin 2 none, Cond.fieldLink RX3 49 "WishWell$Lands" "thrown" "LWishWell$Row;", Cond.fieldLink RX3 55 "WishWell$Lands" "values" "LWishWell$Row;", Cond.methodLink RX3 45 yX1_add, Cond.instanceMethod yX1_add]
def wsX5_foresee_r5 : List Cond := [Cond.selects RX1 yX1_add yX1_add, Cond.code yX1_add cX1_add 4 none, Cond.methodLink RX1 20 yX1_place, Cond.static yX1_place, Cond.code yX1_place cX1_place 3 (some .int), Cond.methodLink RX1 28 yX2_add, Cond.instanceMethod yX2_add, Cond.selects RX2 yX2_add yX2_add, Cond.code yX2_add cX2_add 3 none, Cond.methodLink RX3 52 yX2_add, Cond.methodLink RX3 62 yX3_raiseFavour, Cond.instanceMethod yX3_raiseFavour, Cond.selects RX3 yX3_raiseFavour yX3_raiseFavour, Cond.code yX3_raiseFavour cX3_raiseFavour 2 none, Cond.methodLink RX3 65 Lib.Math.min.name, Cond.methodLink RX3 149 yX3_sinkCoins, Cond.instanceMethod yX3_sinkCoins, Cond.selects RX3 yX3_sinkCoins yX3_sinkCoins, Cond.code yX3_sinkCoins cX3_sinkCoins 5 none, Cond.fieldLink RX3 115 "WishWell$Lands" "weights" "LWishWell$Row;", Cond.methodLink RX3 98 yX1_at, Cond.instanceMethod yX1_at, Cond.selects RX1 yX1_at yX1_at, Cond.code yX1_at cX1_at 3 (some .int)]
def wsX5_foresee_r6 : List Cond := [Cond.methodLink RX1 24 yX2_at, Cond.methodLink RX3 152 yX3_grantNext, Cond.instanceMethod yX3_grantNext, Cond.selects RX3 yX3_grantNext yX3_grantNext, Cond.code yX3_grantNext cX3_grantNext 3 (some .boolean), Cond.fieldLink RX3 80 "WishWell$Wishes" "fates" "LWishWell$Row;", Cond.fieldLink RX3 161 "WishWell$Wishes" "grantDays" "LWishWell$Row;", Cond.methodLink RX3 158 yX3_nextWish, Cond.instanceMethod yX3_nextWish, Cond.selects RX3 yX3_nextWish yX3_nextWish, Cond.code yX3_nextWish cX3_nextWish 6 (some .int), Cond.fieldLink RX3 121 "WishWell$Wishes" "size" "I", Cond.methodLink RX3 135 yX3_coinValue, Cond.instanceMethod yX3_coinValue, Cond.selects RX3 yX3_coinValue yX3_coinValue, Cond.code yX3_coinValue cX3_coinValue 2 (some .int), Cond.fieldLink RX3 71 "WishWell$Wishes" "coinLands" "LWishWell$Row;", Cond.methodLink RX3 138 yX4_waitsFor, Cond.instanceMethod yX4_waitsFor, Cond.selects RX4 yX4_waitsFor yX4_waitsFor, Cond.code yX4_waitsFor cX4_waitsFor 3 (some .boolean), Cond.methodLink RX4 40 yX2_at, Cond.methodLink RX3 83 yX2_put, Cond.instanceMethod yX2_put]
def wsX5_foresee_r7 : List Cond := [Cond.selects RX2 yX2_put yX2_put, Cond.code yX2_put cX2_put 3 none, Cond.methodLink RX5 168 yX1_coinsIn, Cond.instanceMethod yX1_coinsIn, Cond.selects RX1 yX1_coinsIn yX1_coinsIn, Cond.code yX1_coinsIn cX1_coinsIn 4 (some .int), Cond.methodLink RX1 32 yX1_at, Cond.methodLink RX5 171 yX3_valueOfAll, Cond.instanceMethod yX3_valueOfAll, Cond.selects RX3 yX3_valueOfAll yX3_valueOfAll, Cond.code yX3_valueOfAll cX3_valueOfAll 3 (some .int), Cond.methodLink RX3 106 yX3_valueIn, Cond.instanceMethod yX3_valueIn, Cond.selects RX3 yX3_valueIn yX3_valueIn, Cond.code yX3_valueIn cX3_valueIn 4 (some .int)]
def wsX5_foresee : List Cond := .code yX5_foresee cX5_foresee 3 (some .int) :: ((wsX5_foresee_r1 ++ (wsX5_foresee_r2 ++ (wsX5_foresee_r3 ++ (wsX5_foresee_r4 ++ (wsX5_foresee_r5 ++ (wsX5_foresee_r6 ++ wsX5_foresee_r7)))))) ++ wsX50 ++ wsX30 ++ wsX00 ++ wsX20 ++ wsX40 ++ wsX10 ++ (vx_atS RX5 36 "java/lang/IllegalArgumentException" ["java/lang/RuntimeException", "java/lang/Exception"]).filter goodWord ++ (vx_atS RX5 64 "java/lang/IndexOutOfBoundsException" ["java/lang/RuntimeException", "java/lang/Exception"]).filter goodWord ++ (vx_atM "java/lang/ArrayIndexOutOfBoundsException" ["java/lang/IndexOutOfBoundsException", "java/lang/RuntimeException", "java/lang/Exception"]).filter goodWord)
def wsX5_richest_r1 : List Cond := [Cond.fieldLink RX5 10 "WishWell" "well" "LWishWell$Well;", Cond.methodLink RX5 175 yX3_valueIn, Cond.instanceMethod yX3_valueIn, Cond.selects RX3 yX3_valueIn yX3_valueIn, Cond.initialized RX3, Cond.code yX3_valueIn cX3_valueIn 4 (some .int), Cond.fieldLink RX3 12 "WishWell$Well" "lands" "LWishWell$Lands;", Cond.fieldLink RX3 95 "WishWell$Lands" "size" "I", Cond.fieldLink RX3 28 "WishWell$Well" "layers" "LWishWell$Layers;", Cond.fieldLink RX3 55 "WishWell$Lands" "values" "LWishWell$Row;", Cond.methodLink RX3 98 yX1_at, Cond.instanceMethod yX1_at, Cond.selects RX1 yX1_at yX1_at, Cond.initialized RX1, Cond.code yX1_at cX1_at 3 (some .int), Cond.fieldLink RX1 14 "WishWell$Layers" "cells" "LWishWell$Row;", Cond.methodLink RX1 20 yX1_place, Cond.static yX1_place, Cond.code yX1_place cX1_place 3 (some .int), Cond.methodLink RX1 24 yX2_at, Cond.instanceMethod yX2_at, Cond.selects RX2 yX2_at yX2_at, Cond.initialized RX2, Cond.code yX2_at cX2_at 2 (some .int)]
def wsX5_richest_r2 : List Cond := [Cond.fieldLink RX2 7 "WishWell$Row" "cells" "[I", Cond.methodLink RX3 58 yX2_at]
def wsX5_richest : List Cond := .code yX5_richest cX5_richest 5 (some .int) :: ((wsX5_richest_r1 ++ wsX5_richest_r2) ++ wsX50 ++ wsX30 ++ wsX00 ++ wsX10 ++ wsX20 ++ (vx_atM "java/lang/ArrayIndexOutOfBoundsException" ["java/lang/IndexOutOfBoundsException", "java/lang/RuntimeException", "java/lang/Exception"]).filter goodWord)
def wsX5_payWithBundle : List Cond := .code yX5_payWithBundle cX5_payWithBundle 7 none :: ([.fieldLink RX5 24 "WishWell" "fewest" "LWishWell$Row;", .methodLink RX5 70 yX2_at, .instanceMethod yX2_at, .selects RX2 yX2_at yX2_at, .initialized RX2, .code yX2_at cX2_at 2 (some .int), .fieldLink RX2 7 "WishWell$Row" "cells" "[I", .methodLink RX5 74 yX2_put, .instanceMethod yX2_put, .selects RX2 yX2_put yX2_put, .code yX2_put cX2_put 3 none] ++ wsX50 ++ wsX20 ++ (vx_atM "java/lang/ArrayIndexOutOfBoundsException" ["java/lang/IndexOutOfBoundsException", "java/lang/RuntimeException", "java/lang/Exception"]).filter goodWord)
def wsX5_payWithLand_r1 : List Cond := [Cond.fieldLink RX5 10 "WishWell" "well" "LWishWell$Well;", Cond.fieldLink RX5 41 "WishWell$Well" "lands" "LWishWell$Lands;", Cond.fieldLink RX5 205 "WishWell$Lands" "values" "LWishWell$Row;", Cond.fieldLink RX5 133 "WishWell$Well" "layers" "LWishWell$Layers;", Cond.methodLink RX5 211 Lib.Math.min.name, Cond.static Lib.Math.min.name, Cond.initialized "java/lang/Math", Cond.code Lib.Math.min.name Lib.Math.min.code 2 (some .int), Cond.methodLink RX5 70 yX2_at, Cond.instanceMethod yX2_at, Cond.selects RX2 yX2_at yX2_at, Cond.initialized RX2, Cond.code yX2_at cX2_at 2 (some .int), Cond.fieldLink RX2 7 "WishWell$Row" "cells" "[I", Cond.methodLink RX5 208 yX1_coinsOf, Cond.instanceMethod yX1_coinsOf, Cond.selects RX1 yX1_coinsOf yX1_coinsOf, Cond.initialized RX1, Cond.code yX1_coinsOf cX1_coinsOf 4 (some .int), Cond.methodLink RX1 32 yX1_at, Cond.instanceMethod yX1_at, Cond.selects RX1 yX1_at yX1_at, Cond.code yX1_at cX1_at 3 (some .int), Cond.fieldLink RX1 14 "WishWell$Layers" "cells" "LWishWell$Row;"]
def wsX5_payWithLand_r2 : List Cond := [Cond.methodLink RX1 20 yX1_place, Cond.static yX1_place, Cond.code yX1_place cX1_place 3 (some .int), Cond.methodLink RX1 24 yX2_at, Cond.methodLink RX5 216 yX5_payWithBundle, Cond.instanceMethod yX5_payWithBundle, Cond.selects RX5 yX5_payWithBundle yX5_payWithBundle, Cond.initialized RX5, Cond.code yX5_payWithBundle cX5_payWithBundle 7 none, Cond.fieldLink RX5 24 "WishWell" "fewest" "LWishWell$Row;", Cond.methodLink RX5 74 yX2_put, Cond.instanceMethod yX2_put, Cond.selects RX2 yX2_put yX2_put, Cond.code yX2_put cX2_put 3 none]
def wsX5_payWithLand : List Cond := .code yX5_payWithLand cX5_payWithLand 7 none :: ((wsX5_payWithLand_r1 ++ wsX5_payWithLand_r2) ++ wsX50 ++ wsX30 ++ wsX00 ++ wsX20 ++ wsX10 ++ (vx_atM "java/lang/ArrayIndexOutOfBoundsException" ["java/lang/IndexOutOfBoundsException", "java/lang/RuntimeException", "java/lang/Exception"]).filter goodWord)
def wsX5_change_r1 : List Cond := [Cond.classLink RX5 32 "java/lang/IllegalArgumentException", Cond.initialized "java/lang/IllegalArgumentException", Cond.fieldLink RX5 24 "WishWell" "fewest" "LWishWell$Row;", Cond.fieldLink RX5 10 "WishWell" "well" "LWishWell$Well;", Cond.fieldLink RX5 41 "WishWell$Well" "lands" "LWishWell$Lands;", Cond.fieldLink RX5 45 "WishWell$Lands" "size" "I", Cond.methodLink RX5 28 yX5_within, Cond.static yX5_within, Cond.initialized RX5, Cond.code yX5_within cX5_within 3 (some .boolean), Cond.methodLink RX5 74 yX2_put, Cond.instanceMethod yX2_put, Cond.selects RX2 yX2_put yX2_put, Cond.initialized RX2, Cond.code yX2_put cX2_put 3 none, Cond.fieldLink RX2 7 "WishWell$Row" "cells" "[I", Cond.methodLink RX5 180 yX5_payWithLand, Cond.instanceMethod yX5_payWithLand, Cond.selects RX5 yX5_payWithLand yX5_payWithLand, Cond.code yX5_payWithLand cX5_payWithLand 7 none, Cond.fieldLink RX5 205 "WishWell$Lands" "values" "LWishWell$Row;", Cond.fieldLink RX5 133 "WishWell$Well" "layers" "LWishWell$Layers;", Cond.methodLink RX5 211 Lib.Math.min.name, Cond.static Lib.Math.min.name]
def wsX5_change_r2 : List Cond := [Cond.initialized "java/lang/Math", Cond.code Lib.Math.min.name Lib.Math.min.code 2 (some .int), Cond.methodLink RX5 70 yX2_at, Cond.instanceMethod yX2_at, Cond.selects RX2 yX2_at yX2_at, Cond.code yX2_at cX2_at 2 (some .int), Cond.methodLink RX5 208 yX1_coinsOf, Cond.instanceMethod yX1_coinsOf, Cond.selects RX1 yX1_coinsOf yX1_coinsOf, Cond.initialized RX1, Cond.code yX1_coinsOf cX1_coinsOf 4 (some .int), Cond.methodLink RX1 32 yX1_at, Cond.instanceMethod yX1_at, Cond.selects RX1 yX1_at yX1_at, Cond.code yX1_at cX1_at 3 (some .int), Cond.fieldLink RX1 14 "WishWell$Layers" "cells" "LWishWell$Row;", Cond.methodLink RX1 20 yX1_place, Cond.static yX1_place, Cond.code yX1_place cX1_place 3 (some .int), Cond.methodLink RX1 24 yX2_at, Cond.methodLink RX5 216 yX5_payWithBundle, Cond.instanceMethod yX5_payWithBundle, Cond.selects RX5 yX5_payWithBundle yX5_payWithBundle, Cond.code yX5_payWithBundle cX5_payWithBundle 7 none]
def wsX5_change : List Cond := .code yX5_change cX5_change 3 (some .int) :: ((wsX5_change_r1 ++ wsX5_change_r2) ++ wsX50 ++ wsX30 ++ wsX00 ++ wsX20 ++ wsX10 ++ (vx_atS RX5 36 "java/lang/IllegalArgumentException" ["java/lang/RuntimeException", "java/lang/Exception"]).filter goodWord ++ (vx_atM "java/lang/ArrayIndexOutOfBoundsException" ["java/lang/IndexOutOfBoundsException", "java/lang/RuntimeException", "java/lang/Exception"]).filter goodWord)
def wsX5_mean : List Cond := .code yX5_mean cX5_mean 1 (some .double) :: ([.fieldLink RX5 10 "WishWell" "well" "LWishWell$Well;", .fieldLink RX5 86 "WishWell$Well" "wishes" "LWishWell$Wishes;", .methodLink RX5 183 yX4_meanWait, .instanceMethod yX4_meanWait, .selects RX4 yX4_meanWait yX4_meanWait, .initialized RX4, .code yX4_meanWait cX4_meanWait 4 (some .double), .fieldLink RX4 32 "WishWell$Wishes" "size" "I", .fieldLink RX4 26 "WishWell$Wishes" "fates" "LWishWell$Row;", .fieldLink RX4 29 "WishWell$Wishes" "grantDays" "LWishWell$Row;", .fieldLink RX4 23 "WishWell$Wishes" "thrownDays" "LWishWell$Row;", .methodLink RX4 40 yX2_at, .instanceMethod yX2_at, .selects RX2 yX2_at yX2_at, .initialized RX2, .code yX2_at cX2_at 2 (some .int), .fieldLink RX2 7 "WishWell$Row" "cells" "[I"] ++ wsX50 ++ wsX30 ++ wsX40 ++ wsX20 ++ (vx_atM "java/lang/ArrayIndexOutOfBoundsException" ["java/lang/IndexOutOfBoundsException", "java/lang/RuntimeException", "java/lang/Exception"]).filter goodWord)
def wsX5_digestLands_r1 : List Cond := [Cond.fieldLink RX5 10 "WishWell" "well" "LWishWell$Well;", Cond.fieldLink RX5 41 "WishWell$Well" "lands" "LWishWell$Lands;", Cond.fieldLink RX5 45 "WishWell$Lands" "size" "I", Cond.constantLong RX5 189 (31), Cond.methodLink RX5 130 yX3_landFigure, Cond.instanceMethod yX3_landFigure, Cond.selects RX3 yX3_landFigure yX3_landFigure, Cond.initialized RX3, Cond.code yX3_landFigure cX3_landFigure 3 (some .int), Cond.fieldLink RX3 12 "WishWell$Well" "lands" "LWishWell$Lands;", Cond.fieldLink RX3 55 "WishWell$Lands" "values" "LWishWell$Row;", Cond.fieldLink RX3 115 "WishWell$Lands" "weights" "LWishWell$Row;", Cond.fieldLink RX3 49 "WishWell$Lands" "thrown" "LWishWell$Row;", Cond.fieldLink RX3 28 "WishWell$Well" "layers" "LWishWell$Layers;", Cond.fieldLink RX3 109 "WishWell$Lands" "audited" "LWishWell$Row;", Cond.methodLink RX3 58 yX2_at, Cond.instanceMethod yX2_at, Cond.selects RX2 yX2_at yX2_at, Cond.initialized RX2, Cond.code yX2_at cX2_at 2 (some .int), Cond.fieldLink RX2 7 "WishWell$Row" "cells" "[I", Cond.methodLink RX3 112 yX1_coinsOf, Cond.instanceMethod yX1_coinsOf, Cond.selects RX1 yX1_coinsOf yX1_coinsOf]
def wsX5_digestLands_r2 : List Cond := [Cond.initialized RX1, Cond.code yX1_coinsOf cX1_coinsOf 4 (some .int), Cond.methodLink RX1 32 yX1_at, Cond.instanceMethod yX1_at, Cond.selects RX1 yX1_at yX1_at, Cond.code yX1_at cX1_at 3 (some .int), Cond.fieldLink RX1 14 "WishWell$Layers" "cells" "LWishWell$Row;", Cond.methodLink RX1 20 yX1_place, Cond.static yX1_place, Cond.code yX1_place cX1_place 3 (some .int), Cond.methodLink RX1 24 yX2_at, Cond.methodLink RX5 125 yX3_missingCoins, Cond.instanceMethod yX3_missingCoins, Cond.selects RX3 yX3_missingCoins yX3_missingCoins, Cond.code yX3_missingCoins cX3_missingCoins 2 (some .int), Cond.fieldLink RX3 77 "WishWell$Lands" "takenBack" "LWishWell$Row;"]
def wsX5_digestLands : List Cond := .code yX5_digestLands cX5_digestLands 7 (some .long) :: ((wsX5_digestLands_r1 ++ wsX5_digestLands_r2) ++ wsX50 ++ wsX30 ++ wsX00 ++ wsX20 ++ wsX10 ++ (vx_atM "java/lang/ArrayIndexOutOfBoundsException" ["java/lang/IndexOutOfBoundsException", "java/lang/RuntimeException", "java/lang/Exception"]).filter goodWord)
def wsX5_digestLayers : List Cond := .code yX5_digestLayers cX5_digestLayers 7 (some .long) :: ([.fieldLink RX5 10 "WishWell" "well" "LWishWell$Well;", .fieldLink RX5 41 "WishWell$Well" "lands" "LWishWell$Lands;", .fieldLink RX5 45 "WishWell$Lands" "size" "I", .constantLong RX5 189 (31), .fieldLink RX5 133 "WishWell$Well" "layers" "LWishWell$Layers;", .methodLink RX5 137 yX1_at, .instanceMethod yX1_at, .selects RX1 yX1_at yX1_at, .initialized RX1, .code yX1_at cX1_at 3 (some .int), .fieldLink RX1 14 "WishWell$Layers" "cells" "LWishWell$Row;", .methodLink RX1 20 yX1_place, .static yX1_place, .code yX1_place cX1_place 3 (some .int), .methodLink RX1 24 yX2_at, .instanceMethod yX2_at, .selects RX2 yX2_at yX2_at, .initialized RX2, .code yX2_at cX2_at 2 (some .int), .fieldLink RX2 7 "WishWell$Row" "cells" "[I"] ++ wsX50 ++ wsX30 ++ wsX00 ++ wsX10 ++ wsX20 ++ (vx_atM "java/lang/ArrayIndexOutOfBoundsException" ["java/lang/IndexOutOfBoundsException", "java/lang/RuntimeException", "java/lang/Exception"]).filter goodWord)
def wsX5_digestWishes : List Cond := .code yX5_digestWishes cX5_digestWishes 7 (some .long) :: ([.fieldLink RX5 10 "WishWell" "well" "LWishWell$Well;", .fieldLink RX5 86 "WishWell$Well" "wishes" "LWishWell$Wishes;", .fieldLink RX5 90 "WishWell$Wishes" "size" "I", .constantLong RX5 189 (31), .methodLink RX5 141 yX4_figure, .instanceMethod yX4_figure, .selects RX4 yX4_figure yX4_figure, .initialized RX4, .code yX4_figure cX4_figure 3 (some .int), .fieldLink RX4 14 "WishWell$Wishes" "kinds" "LWishWell$Row;", .fieldLink RX4 20 "WishWell$Wishes" "coinLands" "LWishWell$Row;", .fieldLink RX4 23 "WishWell$Wishes" "thrownDays" "LWishWell$Row;", .fieldLink RX4 26 "WishWell$Wishes" "fates" "LWishWell$Row;", .fieldLink RX4 29 "WishWell$Wishes" "grantDays" "LWishWell$Row;", .methodLink RX4 40 yX2_at, .instanceMethod yX2_at, .selects RX2 yX2_at yX2_at, .initialized RX2, .code yX2_at cX2_at 2 (some .int), .fieldLink RX2 7 "WishWell$Row" "cells" "[I"] ++ wsX50 ++ wsX30 ++ wsX40 ++ wsX20 ++ (vx_atM "java/lang/ArrayIndexOutOfBoundsException" ["java/lang/IndexOutOfBoundsException", "java/lang/RuntimeException", "java/lang/Exception"]).filter goodWord)
def wsX5_digest_r1 : List Cond := [Cond.constantLong RX5 187 (821), Cond.constantLong RX5 189 (31), Cond.fieldLink RX5 10 "WishWell" "well" "LWishWell$Well;", Cond.fieldLink RX5 67 "WishWell$Well" "tide" "LWishWell$Row;", Cond.methodLink RX5 146 yX3_figure, Cond.instanceMethod yX3_figure, Cond.selects RX3 yX3_figure yX3_figure, Cond.initialized RX3, Cond.code yX3_figure cX3_figure 2 (some .int), Cond.fieldLink RX3 118 "WishWell$Well" "day" "I", Cond.fieldLink RX3 12 "WishWell$Well" "lands" "LWishWell$Lands;", Cond.fieldLink RX3 95 "WishWell$Lands" "size" "I", Cond.fieldLink RX3 21 "WishWell$Well" "wishes" "LWishWell$Wishes;", Cond.fieldLink RX3 121 "WishWell$Wishes" "size" "I", Cond.fieldLink RX3 41 "WishWell$Well" "favour" "I", Cond.fieldLink RX3 125 "WishWell$Well" "turn" "I", Cond.fieldLink RX3 103 "WishWell$Well" "purse" "I", Cond.fieldLink RX3 92 "WishWell$Well" "fished" "I", Cond.methodLink RX3 122 yX4_howMany, Cond.instanceMethod yX4_howMany, Cond.selects RX4 yX4_howMany yX4_howMany, Cond.initialized RX4, Cond.code yX4_howMany cX4_howMany 4 (some .int), Cond.fieldLink RX4 32 "WishWell$Wishes" "size" "I"]
def wsX5_digest_r2 : List Cond := [Cond.fieldLink RX4 26 "WishWell$Wishes" "fates" "LWishWell$Row;", Cond.methodLink RX4 40 yX2_at, Cond.instanceMethod yX2_at, Cond.selects RX2 yX2_at yX2_at, Cond.initialized RX2, Cond.code yX2_at cX2_at 2 (some .int), Cond.fieldLink RX2 7 "WishWell$Row" "cells" "[I", Cond.methodLink RX3 128 yX3_coinsInAll, Cond.instanceMethod yX3_coinsInAll, Cond.selects RX3 yX3_coinsInAll yX3_coinsInAll, Cond.code yX3_coinsInAll cX3_coinsInAll 3 (some .int), Cond.fieldLink RX3 28 "WishWell$Well" "layers" "LWishWell$Layers;", Cond.methodLink RX3 100 yX1_coinsIn, Cond.instanceMethod yX1_coinsIn, Cond.selects RX1 yX1_coinsIn yX1_coinsIn, Cond.initialized RX1, Cond.code yX1_coinsIn cX1_coinsIn 4 (some .int), Cond.methodLink RX1 32 yX1_at, Cond.instanceMethod yX1_at, Cond.selects RX1 yX1_at yX1_at, Cond.code yX1_at cX1_at 3 (some .int), Cond.fieldLink RX1 14 "WishWell$Layers" "cells" "LWishWell$Row;", Cond.methodLink RX1 20 yX1_place, Cond.static yX1_place]
def wsX5_digest_r3 : List Cond := [Cond.code yX1_place cX1_place 3 (some .int), Cond.methodLink RX1 24 yX2_at, Cond.methodLink RX3 132 yX3_valueOfAll, Cond.instanceMethod yX3_valueOfAll, Cond.selects RX3 yX3_valueOfAll yX3_valueOfAll, Cond.code yX3_valueOfAll cX3_valueOfAll 3 (some .int), Cond.methodLink RX3 106 yX3_valueIn, Cond.instanceMethod yX3_valueIn, Cond.selects RX3 yX3_valueIn yX3_valueIn, Cond.code yX3_valueIn cX3_valueIn 4 (some .int), Cond.fieldLink RX3 55 "WishWell$Lands" "values" "LWishWell$Row;", Cond.methodLink RX3 98 yX1_at, Cond.methodLink RX3 58 yX2_at, Cond.methodLink RX5 70 yX2_at, Cond.methodLink RX5 191 yX5_digestLands, Cond.instanceMethod yX5_digestLands, Cond.selects RX5 yX5_digestLands yX5_digestLands, Cond.initialized RX5, Cond.code yX5_digestLands cX5_digestLands 7 (some .long), Cond.fieldLink RX5 41 "WishWell$Well" "lands" "LWishWell$Lands;", Cond.fieldLink RX5 45 "WishWell$Lands" "size" "I", Cond.methodLink RX5 130 yX3_landFigure, Cond.instanceMethod yX3_landFigure, Cond.selects RX3 yX3_landFigure yX3_landFigure]
def wsX5_digest_r4 : List Cond := [Cond.code yX3_landFigure cX3_landFigure 3 (some .int), Cond.fieldLink RX3 115 "WishWell$Lands" "weights" "LWishWell$Row;", Cond.fieldLink RX3 49 "WishWell$Lands" "thrown" "LWishWell$Row;", Cond.fieldLink RX3 109 "WishWell$Lands" "audited" "LWishWell$Row;", Cond.methodLink RX3 112 yX1_coinsOf, Cond.instanceMethod yX1_coinsOf, Cond.selects RX1 yX1_coinsOf yX1_coinsOf, Cond.code yX1_coinsOf cX1_coinsOf 4 (some .int), Cond.methodLink RX5 125 yX3_missingCoins, Cond.instanceMethod yX3_missingCoins, Cond.selects RX3 yX3_missingCoins yX3_missingCoins, Cond.code yX3_missingCoins cX3_missingCoins 2 (some .int), Cond.fieldLink RX3 77 "WishWell$Lands" "takenBack" "LWishWell$Row;", Cond.methodLink RX5 195 yX5_digestLayers, Cond.instanceMethod yX5_digestLayers, Cond.selects RX5 yX5_digestLayers yX5_digestLayers, Cond.code yX5_digestLayers cX5_digestLayers 7 (some .long), Cond.fieldLink RX5 133 "WishWell$Well" "layers" "LWishWell$Layers;", Cond.methodLink RX5 137 yX1_at, Cond.methodLink RX5 198 yX5_digestWishes, Cond.instanceMethod yX5_digestWishes, Cond.selects RX5 yX5_digestWishes yX5_digestWishes, Cond.code yX5_digestWishes cX5_digestWishes 7 (some .long), Cond.fieldLink RX5 86 "WishWell$Well" "wishes" "LWishWell$Wishes;"]
def wsX5_digest_r5 : List Cond := [Cond.fieldLink RX5 90 "WishWell$Wishes" "size" "I", Cond.methodLink RX5 141 yX4_figure, Cond.instanceMethod yX4_figure, Cond.selects RX4 yX4_figure yX4_figure, Cond.code yX4_figure cX4_figure 3 (some .int), Cond.fieldLink RX4 14 "WishWell$Wishes" "kinds" "LWishWell$Row;", Cond.fieldLink RX4 20 "WishWell$Wishes" "coinLands" "LWishWell$Row;", Cond.fieldLink RX4 23 "WishWell$Wishes" "thrownDays" "LWishWell$Row;", Cond.fieldLink RX4 29 "WishWell$Wishes" "grantDays" "LWishWell$Row;"]
def wsX5_digest : List Cond := .code yX5_digest cX5_digest 4 (some .long) :: ((wsX5_digest_r1 ++ (wsX5_digest_r2 ++ (wsX5_digest_r3 ++ (wsX5_digest_r4 ++ wsX5_digest_r5)))) ++ wsX50 ++ wsX30 ++ wsX00 ++ wsX40 ++ wsX20 ++ wsX10 ++ (vx_atM "java/lang/ArrayIndexOutOfBoundsException" ["java/lang/IndexOutOfBoundsException", "java/lang/RuntimeException", "java/lang/Exception"]).filter goodWord)
def wsX6_init : List Cond := .code yX6_init cX6_init 2 none :: ([.fieldLink RX6 3 "WishWellModel$State" "this$0" "LWishWellModel;", .methodLink RX6 9 objectInit, .instanceMethod objectInit, .code objectInit ⟨#[0xb1]⟩ 1 none, .fieldLink RX6 15 "WishWellModel$State" "favour" "I", .arrayClass .int, .fieldLink RX6 19 "WishWellModel$State" "pile" "[I", .fieldLink RX6 23 "WishWellModel$State" "came" "[I", .fieldLink RX6 26 "WishWellModel$State" "how" "[I", .fieldLink RX6 29 "WishWellModel$State" "when" "[I"] ++ wsX60)
def wsX6_copy : List Cond := .code yX6_copy cX6_copy 3 none :: ([.methodLink RX6 32 arraycopyName, .native arraycopyName, .static arraycopyName, .initialized "java/lang/System"])
def wsX6_become : List Cond := .code yX6_become cX6_become 2 none :: ([.fieldLink RX6 38 "WishWellModel$State" "today" "I", .fieldLink RX6 15 "WishWellModel$State" "favour" "I", .fieldLink RX6 41 "WishWellModel$State" "turn" "I", .fieldLink RX6 19 "WishWellModel$State" "pile" "[I", .fieldLink RX6 23 "WishWellModel$State" "came" "[I", .fieldLink RX6 26 "WishWellModel$State" "how" "[I", .fieldLink RX6 29 "WishWellModel$State" "when" "[I", .methodLink RX6 44 yX6_copy, .instanceMethod yX6_copy, .selects RX6 yX6_copy yX6_copy, .initialized RX6, .code yX6_copy cX6_copy 3 none, .methodLink RX6 32 arraycopyName, .native arraycopyName, .static arraycopyName, .initialized "java/lang/System"] ++ wsX60)
def wsX6_drop : List Cond := .code yX6_drop cX6_drop 2 none :: ([.fieldLink RX6 19 "WishWellModel$State" "pile" "[I", .fieldLink RX6 23 "WishWellModel$State" "came" "[I", .fieldLink RX6 15 "WishWellModel$State" "favour" "I", .fieldLink RX6 3 "WishWellModel$State" "this$0" "LWishWellModel;", .methodLink RX6 51 Lib.Math.min.name, .static Lib.Math.min.name, .initialized "java/lang/Math", .code Lib.Math.min.name Lib.Math.min.code 2 (some .int)] ++ wsX60 ++ wsX70 ++ (vx_atM "java/lang/ArrayIndexOutOfBoundsException" ["java/lang/IndexOutOfBoundsException", "java/lang/RuntimeException", "java/lang/Exception"]).filter goodWord)
def wsX6_next : List Cond := .code yX6_next cX6_next 4 (some .int) :: ([.fieldLink RX6 3 "WishWellModel$State" "this$0" "LWishWellModel;", .fieldLink RX6 26 "WishWellModel$State" "how" "[I"] ++ wsX60 ++ wsX70 ++ (vx_atM "java/lang/ArrayIndexOutOfBoundsException" ["java/lang/IndexOutOfBoundsException", "java/lang/RuntimeException", "java/lang/Exception"]).filter goodWord)
def wsX6_pass : List Cond := .code yX6_pass cX6_pass 3 (some .boolean) :: ([.fieldLink RX6 3 "WishWellModel$State" "this$0" "LWishWellModel;", .fieldLink RX6 38 "WishWellModel$State" "today" "I", .fieldLink RX6 19 "WishWellModel$State" "pile" "[I", .fieldLink RX6 41 "WishWellModel$State" "turn" "I", .fieldLink RX6 15 "WishWellModel$State" "favour" "I", .fieldLink RX6 26 "WishWellModel$State" "how" "[I", .fieldLink RX6 29 "WishWellModel$State" "when" "[I", .methodLink RX6 51 Lib.Math.min.name, .static Lib.Math.min.name, .initialized "java/lang/Math", .code Lib.Math.min.name Lib.Math.min.code 2 (some .int), .methodLink RX6 72 yX6_drop, .instanceMethod yX6_drop, .selects RX6 yX6_drop yX6_drop, .initialized RX6, .code yX6_drop cX6_drop 2 none, .fieldLink RX6 23 "WishWellModel$State" "came" "[I", .methodLink RX6 79 yX6_next, .instanceMethod yX6_next, .selects RX6 yX6_next yX6_next, .code yX6_next cX6_next 4 (some .int)] ++ wsX60 ++ wsX70 ++ (vx_atM "java/lang/ArrayIndexOutOfBoundsException" ["java/lang/IndexOutOfBoundsException", "java/lang/RuntimeException", "java/lang/Exception"]).filter goodWord)
def wsX6_coins : List Cond := .code yX6_coins cX6_coins 4 (some .int) :: ([.fieldLink RX6 19 "WishWellModel$State" "pile" "[I"] ++ wsX60 ++ (vx_atM "java/lang/ArrayIndexOutOfBoundsException" ["java/lang/IndexOutOfBoundsException", "java/lang/RuntimeException", "java/lang/Exception"]).filter goodWord)
def wsX6_worth : List Cond := .code yX6_worth cX6_worth 4 (some .int) :: ([.fieldLink RX6 3 "WishWellModel$State" "this$0" "LWishWellModel;", .fieldLink RX6 19 "WishWellModel$State" "pile" "[I"] ++ wsX60 ++ wsX70 ++ (vx_atM "java/lang/ArrayIndexOutOfBoundsException" ["java/lang/IndexOutOfBoundsException", "java/lang/RuntimeException", "java/lang/Exception"]).filter goodWord)
def wsX6_allWorth : List Cond := .code yX6_allWorth cX6_allWorth 3 (some .int) :: ([.methodLink RX6 83 yX6_worth, .instanceMethod yX6_worth, .selects RX6 yX6_worth yX6_worth, .initialized RX6, .code yX6_worth cX6_worth 4 (some .int), .fieldLink RX6 3 "WishWellModel$State" "this$0" "LWishWellModel;", .fieldLink RX6 19 "WishWellModel$State" "pile" "[I"] ++ wsX60 ++ wsX70 ++ (vx_atM "java/lang/ArrayIndexOutOfBoundsException" ["java/lang/IndexOutOfBoundsException", "java/lang/RuntimeException", "java/lang/Exception"]).filter goodWord)
def wsX6_all : List Cond := .code yX6_all cX6_all 4 (some .int) :: ([.fieldLink RX6 19 "WishWellModel$State" "pile" "[I"] ++ wsX60 ++ (vx_atM "java/lang/ArrayIndexOutOfBoundsException" ["java/lang/IndexOutOfBoundsException", "java/lang/RuntimeException", "java/lang/Exception"]).filter goodWord)
def wsX7_init_r1 : List Cond := [Cond.methodLink RX7 1 objectInit, Cond.instanceMethod objectInit, Cond.code objectInit ⟨#[0xb1]⟩ 1 none, Cond.arrayClass .int, Cond.fieldLink RX7 9 "WishWellModel" "value" "[I", Cond.fieldLink RX7 13 "WishWellModel" "weight" "[I", Cond.fieldLink RX7 16 "WishWellModel" "tide" "[I", Cond.fieldLink RX7 19 "WishWellModel" "audited" "[I", Cond.fieldLink RX7 22 "WishWellModel" "back" "[I", Cond.fieldLink RX7 25 "WishWellModel" "kind" "[I", Cond.fieldLink RX7 28 "WishWellModel" "landOf" "[I", Cond.fieldLink RX7 31 "WishWellModel" "day" "[I", Cond.classLink RX7 34 RX6, Cond.instantiable RX6 8, Cond.initialized RX6, Cond.fieldLink RX7 39 "WishWellModel" "s" "LWishWellModel$State;", Cond.fieldLink RX7 43 "WishWellModel" "ahead" "LWishWellModel$State;", Cond.instanceMethod yX6_init, Cond.code yX6_init cX6_init 2 none, Cond.fieldLink RX6 3 "WishWellModel$State" "this$0" "LWishWellModel;", Cond.methodLink RX6 9 objectInit, Cond.fieldLink RX6 15 "WishWellModel$State" "favour" "I", Cond.fieldLink RX6 19 "WishWellModel$State" "pile" "[I", Cond.fieldLink RX6 23 "WishWellModel$State" "came" "[I"]
def wsX7_init_r2 : List Cond := [Cond.fieldLink RX6 26 "WishWellModel$State" "how" "[I", Cond.fieldLink RX6 29 "WishWellModel$State" "when" "[I"]
def wsX7_init : List Cond := .code yX7_init cX7_init 1 none :: ((wsX7_init_r1 ++ wsX7_init_r2) ++ wsX70 ++ wsX60)
def wsX7_thrown : List Cond := .code yX7_thrown cX7_thrown 1 (some .int) :: ([.fieldLink RX7 46 "WishWellModel" "thrown" "I"] ++ wsX70)
def wsX7_no : List Cond := .code yX7_no cX7_no 2 (some .int) :: ([.fieldLink RX7 46 "WishWellModel" "thrown" "I"] ++ wsX70)
def wsX7_isIn : List Cond := .code yX7_isIn cX7_isIn 3 (some .boolean) :: ([])
def wsX7_isLand : List Cond := .code yX7_isLand cX7_isLand 2 (some .boolean) :: ([.fieldLink RX7 50 "WishWellModel" "lands" "I", .methodLink RX7 53 yX7_isIn, .static yX7_isIn, .initialized RX7, .code yX7_isIn cX7_isIn 3 (some .boolean)] ++ wsX70)
def wsX7_isWish : List Cond := .code yX7_isWish cX7_isWish 2 (some .boolean) :: ([.fieldLink RX7 57 "WishWellModel" "wishes" "I", .methodLink RX7 53 yX7_isIn, .static yX7_isIn, .initialized RX7, .code yX7_isIn cX7_isIn 3 (some .boolean)] ++ wsX70)
def wsX7_isLayer : List Cond := .code yX7_isLayer cX7_isLayer 1 (some .boolean) :: ([.methodLink RX7 53 yX7_isIn, .static yX7_isIn, .initialized RX7, .code yX7_isIn cX7_isIn 3 (some .boolean)])
def wsX7_addLand : List Cond := .code yX7_addLand cX7_addLand 3 (some .int) :: ([.fieldLink RX7 46 "WishWellModel" "thrown" "I", .fieldLink RX7 50 "WishWellModel" "lands" "I", .fieldLink RX7 9 "WishWellModel" "value" "[I", .fieldLink RX7 13 "WishWellModel" "weight" "[I", .methodLink RX7 53 yX7_isIn, .static yX7_isIn, .initialized RX7, .code yX7_isIn cX7_isIn 3 (some .boolean), .methodLink RX7 60 yX7_no, .instanceMethod yX7_no, .selects RX7 yX7_no yX7_no, .code yX7_no cX7_no 2 (some .int)] ++ wsX70 ++ (vx_atM "java/lang/ArrayIndexOutOfBoundsException" ["java/lang/IndexOutOfBoundsException", "java/lang/RuntimeException", "java/lang/Exception"]).filter goodWord)
def wsX7_setTide : List Cond := .code yX7_setTide cX7_setTide 4 (some .int) :: ([.fieldLink RX7 46 "WishWellModel" "thrown" "I", .fieldLink RX7 16 "WishWellModel" "tide" "[I", .methodLink RX7 53 yX7_isIn, .static yX7_isIn, .initialized RX7, .code yX7_isIn cX7_isIn 3 (some .boolean), .methodLink RX7 60 yX7_no, .instanceMethod yX7_no, .selects RX7 yX7_no yX7_no, .code yX7_no cX7_no 2 (some .int)] ++ wsX70 ++ (vx_atM "java/lang/ArrayIndexOutOfBoundsException" ["java/lang/IndexOutOfBoundsException", "java/lang/RuntimeException", "java/lang/Exception"]).filter goodWord)
def wsX7_wish_r1 : List Cond := [Cond.fieldLink RX7 46 "WishWellModel" "thrown" "I", Cond.fieldLink RX7 57 "WishWellModel" "wishes" "I", Cond.fieldLink RX7 25 "WishWellModel" "kind" "[I", Cond.fieldLink RX7 28 "WishWellModel" "landOf" "[I", Cond.fieldLink RX7 31 "WishWellModel" "day" "[I", Cond.fieldLink RX7 39 "WishWellModel" "s" "LWishWellModel$State;", Cond.methodLink RX7 64 yX7_isLand, Cond.instanceMethod yX7_isLand, Cond.selects RX7 yX7_isLand yX7_isLand, Cond.initialized RX7, Cond.code yX7_isLand cX7_isLand 2 (some .boolean), Cond.fieldLink RX7 50 "WishWellModel" "lands" "I", Cond.methodLink RX7 53 yX7_isIn, Cond.static yX7_isIn, Cond.code yX7_isIn cX7_isIn 3 (some .boolean), Cond.methodLink RX7 60 yX7_no, Cond.instanceMethod yX7_no, Cond.selects RX7 yX7_no yX7_no, Cond.code yX7_no cX7_no 2 (some .int), Cond.methodLink RX7 74 yX6_drop, Cond.instanceMethod yX6_drop, Cond.selects RX6 yX6_drop yX6_drop, Cond.initialized RX6, Cond.code yX6_drop cX6_drop 2 none]
def wsX7_wish_r2 : List Cond := [Cond.fieldLink RX6 19 "WishWellModel$State" "pile" "[I", Cond.fieldLink RX6 23 "WishWellModel$State" "came" "[I", Cond.fieldLink RX6 15 "WishWellModel$State" "favour" "I", Cond.fieldLink RX6 3 "WishWellModel$State" "this$0" "LWishWellModel;", Cond.methodLink RX6 51 Lib.Math.min.name, Cond.static Lib.Math.min.name, Cond.initialized "java/lang/Math", Cond.code Lib.Math.min.name Lib.Math.min.code 2 (some .int)]
def wsX7_wish : List Cond := .code yX7_wish cX7_wish 3 (some .int) :: ((wsX7_wish_r1 ++ wsX7_wish_r2) ++ wsX70 ++ wsX60 ++ (vx_atM "java/lang/ArrayIndexOutOfBoundsException" ["java/lang/IndexOutOfBoundsException", "java/lang/RuntimeException", "java/lang/Exception"]).filter goodWord)
def wsX7_withdraw : List Cond := .code yX7_withdraw cX7_withdraw 4 (some .int) :: ([.fieldLink RX7 46 "WishWellModel" "thrown" "I", .fieldLink RX7 39 "WishWellModel" "s" "LWishWellModel$State;", .methodLink RX7 87 Lib.Math.max.name, .static Lib.Math.max.name, .initialized "java/lang/Math", .code Lib.Math.max.name Lib.Math.max.code 2 (some .int), .fieldLink RX7 28 "WishWellModel" "landOf" "[I", .fieldLink RX7 22 "WishWellModel" "back" "[I", .methodLink RX7 78 yX7_isWish, .instanceMethod yX7_isWish, .selects RX7 yX7_isWish yX7_isWish, .initialized RX7, .code yX7_isWish cX7_isWish 2 (some .boolean), .fieldLink RX7 57 "WishWellModel" "wishes" "I", .methodLink RX7 53 yX7_isIn, .static yX7_isIn, .code yX7_isIn cX7_isIn 3 (some .boolean), .methodLink RX7 60 yX7_no, .instanceMethod yX7_no, .selects RX7 yX7_no yX7_no, .code yX7_no cX7_no 2 (some .int)] ++ wsX70 ++ wsX60 ++ (vx_atM "java/lang/ArrayIndexOutOfBoundsException" ["java/lang/IndexOutOfBoundsException", "java/lang/RuntimeException", "java/lang/Exception"]).filter goodWord)
def wsX7_fish : List Cond := .code yX7_fish cX7_fish 7 (some .int) :: ([.fieldLink RX7 46 "WishWellModel" "thrown" "I", .fieldLink RX7 50 "WishWellModel" "lands" "I", .fieldLink RX7 39 "WishWellModel" "s" "LWishWellModel$State;", .fieldLink RX7 9 "WishWellModel" "value" "[I", .fieldLink RX7 99 "WishWellModel" "fished" "I", .methodLink RX7 96 yX7_isLayer, .static yX7_isLayer, .initialized RX7, .code yX7_isLayer cX7_isLayer 1 (some .boolean), .methodLink RX7 53 yX7_isIn, .static yX7_isIn, .code yX7_isIn cX7_isIn 3 (some .boolean), .methodLink RX7 60 yX7_no, .instanceMethod yX7_no, .selects RX7 yX7_no yX7_no, .code yX7_no cX7_no 2 (some .int)] ++ wsX70 ++ wsX60 ++ (vx_atM "java/lang/ArrayIndexOutOfBoundsException" ["java/lang/IndexOutOfBoundsException", "java/lang/RuntimeException", "java/lang/Exception"]).filter goodWord)
def wsX7_audit_r1 : List Cond := [Cond.fieldLink RX7 46 "WishWellModel" "thrown" "I", Cond.fieldLink RX7 39 "WishWellModel" "s" "LWishWellModel$State;", Cond.fieldLink RX7 105 "WishWellModel" "purse" "I", Cond.fieldLink RX7 19 "WishWellModel" "audited" "[I", Cond.methodLink RX7 96 yX7_isLayer, Cond.static yX7_isLayer, Cond.initialized RX7, Cond.code yX7_isLayer cX7_isLayer 1 (some .boolean), Cond.methodLink RX7 53 yX7_isIn, Cond.static yX7_isIn, Cond.code yX7_isIn cX7_isIn 3 (some .boolean), Cond.methodLink RX7 60 yX7_no, Cond.instanceMethod yX7_no, Cond.selects RX7 yX7_no yX7_no, Cond.code yX7_no cX7_no 2 (some .int), Cond.methodLink RX7 102 yX6_coins, Cond.instanceMethod yX6_coins, Cond.selects RX6 yX6_coins yX6_coins, Cond.initialized RX6, Cond.code yX6_coins cX6_coins 4 (some .int), Cond.fieldLink RX6 19 "WishWellModel$State" "pile" "[I", Cond.methodLink RX7 108 yX6_worth, Cond.instanceMethod yX6_worth, Cond.selects RX6 yX6_worth yX6_worth]
def wsX7_audit_r2 : List Cond := [Cond.code yX6_worth cX6_worth 4 (some .int), Cond.fieldLink RX6 3 "WishWellModel$State" "this$0" "LWishWellModel;"]
def wsX7_audit : List Cond := .code yX7_audit cX7_audit 4 (some .int) :: ((wsX7_audit_r1 ++ wsX7_audit_r2) ++ wsX70 ++ wsX60 ++ (vx_atM "java/lang/ArrayIndexOutOfBoundsException" ["java/lang/IndexOutOfBoundsException", "java/lang/RuntimeException", "java/lang/Exception"]).filter goodWord)
def wsX7_missed : List Cond := .code yX7_missed cX7_missed 2 (some .int) :: ([.fieldLink RX7 39 "WishWellModel" "s" "LWishWellModel$State;", .fieldLink RX7 19 "WishWellModel" "audited" "[I", .fieldLink RX7 22 "WishWellModel" "back" "[I", .methodLink RX7 114 yX6_all, .instanceMethod yX6_all, .selects RX6 yX6_all yX6_all, .initialized RX6, .code yX6_all cX6_all 4 (some .int), .fieldLink RX6 19 "WishWellModel$State" "pile" "[I"] ++ wsX70 ++ wsX60 ++ (vx_atM "java/lang/ArrayIndexOutOfBoundsException" ["java/lang/IndexOutOfBoundsException", "java/lang/RuntimeException", "java/lang/Exception"]).filter goodWord)
def wsX7_missing_r1 : List Cond := [Cond.fieldLink RX7 46 "WishWellModel" "thrown" "I", Cond.methodLink RX7 64 yX7_isLand, Cond.instanceMethod yX7_isLand, Cond.selects RX7 yX7_isLand yX7_isLand, Cond.initialized RX7, Cond.code yX7_isLand cX7_isLand 2 (some .boolean), Cond.fieldLink RX7 50 "WishWellModel" "lands" "I", Cond.methodLink RX7 53 yX7_isIn, Cond.static yX7_isIn, Cond.code yX7_isIn cX7_isIn 3 (some .boolean), Cond.methodLink RX7 117 yX7_missed, Cond.instanceMethod yX7_missed, Cond.selects RX7 yX7_missed yX7_missed, Cond.code yX7_missed cX7_missed 2 (some .int), Cond.fieldLink RX7 39 "WishWellModel" "s" "LWishWellModel$State;", Cond.fieldLink RX7 19 "WishWellModel" "audited" "[I", Cond.fieldLink RX7 22 "WishWellModel" "back" "[I", Cond.methodLink RX7 114 yX6_all, Cond.instanceMethod yX6_all, Cond.selects RX6 yX6_all yX6_all, Cond.initialized RX6, Cond.code yX6_all cX6_all 4 (some .int), Cond.fieldLink RX6 19 "WishWellModel$State" "pile" "[I", Cond.methodLink RX7 60 yX7_no]
def wsX7_missing_r2 : List Cond := [Cond.instanceMethod yX7_no, Cond.selects RX7 yX7_no yX7_no, Cond.code yX7_no cX7_no 2 (some .int)]
def wsX7_missing : List Cond := .code yX7_missing cX7_missing 2 (some .int) :: ((wsX7_missing_r1 ++ wsX7_missing_r2) ++ wsX70 ++ wsX60 ++ (vx_atM "java/lang/ArrayIndexOutOfBoundsException" ["java/lang/IndexOutOfBoundsException", "java/lang/RuntimeException", "java/lang/Exception"]).filter goodWord)
def wsX7_landTold : List Cond := .code yX7_landTold cX7_landTold 4 (some .int) :: ([.arrayClass .int, .fieldLink RX7 9 "WishWellModel" "value" "[I", .fieldLink RX7 13 "WishWellModel" "weight" "[I", .fieldLink RX7 39 "WishWellModel" "s" "LWishWellModel$State;", .fieldLink RX7 19 "WishWellModel" "audited" "[I", .methodLink RX7 114 yX6_all, .instanceMethod yX6_all, .selects RX6 yX6_all yX6_all, .initialized RX6, .code yX6_all cX6_all 4 (some .int), .fieldLink RX6 19 "WishWellModel$State" "pile" "[I"] ++ wsX70 ++ wsX60 ++ (vx_atM "java/lang/ArrayIndexOutOfBoundsException" ["java/lang/IndexOutOfBoundsException", "java/lang/RuntimeException", "java/lang/Exception"]).filter goodWord)
def wsX7_land_r1 : List Cond := [Cond.fieldLink RX7 46 "WishWellModel" "thrown" "I", Cond.methodLink RX7 64 yX7_isLand, Cond.instanceMethod yX7_isLand, Cond.selects RX7 yX7_isLand yX7_isLand, Cond.initialized RX7, Cond.code yX7_isLand cX7_isLand 2 (some .boolean), Cond.fieldLink RX7 50 "WishWellModel" "lands" "I", Cond.methodLink RX7 53 yX7_isIn, Cond.static yX7_isIn, Cond.code yX7_isIn cX7_isIn 3 (some .boolean), Cond.methodLink RX7 120 yX7_landTold, Cond.instanceMethod yX7_landTold, Cond.selects RX7 yX7_landTold yX7_landTold, Cond.code yX7_landTold cX7_landTold 4 (some .int), Cond.arrayClass .int, Cond.fieldLink RX7 9 "WishWellModel" "value" "[I", Cond.fieldLink RX7 13 "WishWellModel" "weight" "[I", Cond.fieldLink RX7 39 "WishWellModel" "s" "LWishWellModel$State;", Cond.fieldLink RX7 19 "WishWellModel" "audited" "[I", Cond.methodLink RX7 114 yX6_all, Cond.instanceMethod yX6_all, Cond.selects RX6 yX6_all yX6_all, Cond.initialized RX6, Cond.code yX6_all cX6_all 4 (some .int)]
def wsX7_land_r2 : List Cond := [Cond.fieldLink RX6 19 "WishWellModel$State" "pile" "[I", Cond.methodLink RX7 60 yX7_no, Cond.instanceMethod yX7_no, Cond.selects RX7 yX7_no yX7_no, Cond.code yX7_no cX7_no 2 (some .int)]
def wsX7_land : List Cond := .code yX7_land cX7_land 3 (some .int) :: ((wsX7_land_r1 ++ wsX7_land_r2) ++ wsX70 ++ wsX60 ++ (vx_atM "java/lang/ArrayIndexOutOfBoundsException" ["java/lang/IndexOutOfBoundsException", "java/lang/RuntimeException", "java/lang/Exception"]).filter goodWord)
def wsX7_coins : List Cond := .code yX7_coins cX7_coins 3 (some .int) :: ([.fieldLink RX7 46 "WishWellModel" "thrown" "I", .fieldLink RX7 39 "WishWellModel" "s" "LWishWellModel$State;", .methodLink RX7 96 yX7_isLayer, .static yX7_isLayer, .initialized RX7, .code yX7_isLayer cX7_isLayer 1 (some .boolean), .methodLink RX7 53 yX7_isIn, .static yX7_isIn, .code yX7_isIn cX7_isIn 3 (some .boolean), .methodLink RX7 64 yX7_isLand, .instanceMethod yX7_isLand, .selects RX7 yX7_isLand yX7_isLand, .code yX7_isLand cX7_isLand 2 (some .boolean), .fieldLink RX7 50 "WishWellModel" "lands" "I", .methodLink RX7 60 yX7_no, .instanceMethod yX7_no, .selects RX7 yX7_no yX7_no, .code yX7_no cX7_no 2 (some .int)] ++ wsX70 ++ wsX60 ++ (vx_atM "java/lang/ArrayIndexOutOfBoundsException" ["java/lang/IndexOutOfBoundsException", "java/lang/RuntimeException", "java/lang/Exception"]).filter goodWord)
def wsX7_wishTold : List Cond := .code yX7_wishTold cX7_wishTold 4 (some .int) :: ([.arrayClass .int, .fieldLink RX7 25 "WishWellModel" "kind" "[I", .fieldLink RX7 28 "WishWellModel" "landOf" "[I", .fieldLink RX7 31 "WishWellModel" "day" "[I", .fieldLink RX7 39 "WishWellModel" "s" "LWishWellModel$State;"] ++ wsX70 ++ wsX60 ++ (vx_atM "java/lang/ArrayIndexOutOfBoundsException" ["java/lang/IndexOutOfBoundsException", "java/lang/RuntimeException", "java/lang/Exception"]).filter goodWord)
def wsX7_told : List Cond := .code yX7_told cX7_told 3 (some .int) :: ([.fieldLink RX7 46 "WishWellModel" "thrown" "I", .methodLink RX7 78 yX7_isWish, .instanceMethod yX7_isWish, .selects RX7 yX7_isWish yX7_isWish, .initialized RX7, .code yX7_isWish cX7_isWish 2 (some .boolean), .fieldLink RX7 57 "WishWellModel" "wishes" "I", .methodLink RX7 53 yX7_isIn, .static yX7_isIn, .code yX7_isIn cX7_isIn 3 (some .boolean), .methodLink RX7 123 yX7_wishTold, .instanceMethod yX7_wishTold, .selects RX7 yX7_wishTold yX7_wishTold, .code yX7_wishTold cX7_wishTold 4 (some .int), .arrayClass .int, .fieldLink RX7 25 "WishWellModel" "kind" "[I", .fieldLink RX7 28 "WishWellModel" "landOf" "[I", .fieldLink RX7 31 "WishWellModel" "day" "[I", .fieldLink RX7 39 "WishWellModel" "s" "LWishWellModel$State;", .methodLink RX7 60 yX7_no, .instanceMethod yX7_no, .selects RX7 yX7_no yX7_no, .code yX7_no cX7_no 2 (some .int)] ++ wsX70 ++ wsX60 ++ (vx_atM "java/lang/ArrayIndexOutOfBoundsException" ["java/lang/IndexOutOfBoundsException", "java/lang/RuntimeException", "java/lang/Exception"]).filter goodWord)
def wsX7_counted : List Cond := .code yX7_counted cX7_counted 5 (some .int) :: ([.arrayClass .int, .fieldLink RX7 57 "WishWellModel" "wishes" "I", .fieldLink RX7 39 "WishWellModel" "s" "LWishWellModel$State;", .fieldLink RX7 50 "WishWellModel" "lands" "I", .fieldLink RX7 105 "WishWellModel" "purse" "I", .fieldLink RX7 99 "WishWellModel" "fished" "I", .methodLink RX7 102 yX6_coins, .instanceMethod yX6_coins, .selects RX6 yX6_coins yX6_coins, .initialized RX6, .code yX6_coins cX6_coins 4 (some .int), .fieldLink RX6 19 "WishWellModel$State" "pile" "[I", .methodLink RX7 129 yX6_allWorth, .instanceMethod yX6_allWorth, .selects RX6 yX6_allWorth yX6_allWorth, .code yX6_allWorth cX6_allWorth 3 (some .int), .methodLink RX6 83 yX6_worth, .instanceMethod yX6_worth, .selects RX6 yX6_worth yX6_worth, .code yX6_worth cX6_worth 4 (some .int), .fieldLink RX6 3 "WishWellModel$State" "this$0" "LWishWellModel;"] ++ wsX70 ++ wsX60 ++ (vx_atM "java/lang/ArrayIndexOutOfBoundsException" ["java/lang/IndexOutOfBoundsException", "java/lang/RuntimeException", "java/lang/Exception"]).filter goodWord)
def wsX7_count_r1 : List Cond := [Cond.fieldLink RX7 46 "WishWellModel" "thrown" "I", Cond.methodLink RX7 53 yX7_isIn, Cond.static yX7_isIn, Cond.initialized RX7, Cond.code yX7_isIn cX7_isIn 3 (some .boolean), Cond.methodLink RX7 133 yX7_counted, Cond.instanceMethod yX7_counted, Cond.selects RX7 yX7_counted yX7_counted, Cond.code yX7_counted cX7_counted 5 (some .int), Cond.arrayClass .int, Cond.fieldLink RX7 57 "WishWellModel" "wishes" "I", Cond.fieldLink RX7 39 "WishWellModel" "s" "LWishWellModel$State;", Cond.fieldLink RX7 50 "WishWellModel" "lands" "I", Cond.fieldLink RX7 105 "WishWellModel" "purse" "I", Cond.fieldLink RX7 99 "WishWellModel" "fished" "I", Cond.methodLink RX7 102 yX6_coins, Cond.instanceMethod yX6_coins, Cond.selects RX6 yX6_coins yX6_coins, Cond.initialized RX6, Cond.code yX6_coins cX6_coins 4 (some .int), Cond.fieldLink RX6 19 "WishWellModel$State" "pile" "[I", Cond.methodLink RX7 129 yX6_allWorth, Cond.instanceMethod yX6_allWorth, Cond.selects RX6 yX6_allWorth yX6_allWorth]
def wsX7_count_r2 : List Cond := [Cond.code yX6_allWorth cX6_allWorth 3 (some .int), Cond.methodLink RX6 83 yX6_worth, Cond.instanceMethod yX6_worth, Cond.selects RX6 yX6_worth yX6_worth, Cond.code yX6_worth cX6_worth 4 (some .int), Cond.fieldLink RX6 3 "WishWellModel$State" "this$0" "LWishWellModel;", Cond.methodLink RX7 60 yX7_no, Cond.instanceMethod yX7_no, Cond.selects RX7 yX7_no yX7_no, Cond.code yX7_no cX7_no 2 (some .int)]
def wsX7_count : List Cond := .code yX7_count cX7_count 2 (some .int) :: ((wsX7_count_r1 ++ wsX7_count_r2) ++ wsX70 ++ wsX60 ++ (vx_atM "java/lang/ArrayIndexOutOfBoundsException" ["java/lang/IndexOutOfBoundsException", "java/lang/RuntimeException", "java/lang/Exception"]).filter goodWord)
def wsX7_pass_r1 : List Cond := [Cond.fieldLink RX7 46 "WishWellModel" "thrown" "I", Cond.fieldLink RX7 39 "WishWellModel" "s" "LWishWellModel$State;", Cond.methodLink RX7 53 yX7_isIn, Cond.static yX7_isIn, Cond.initialized RX7, Cond.code yX7_isIn cX7_isIn 3 (some .boolean), Cond.methodLink RX7 60 yX7_no, Cond.instanceMethod yX7_no, Cond.selects RX7 yX7_no yX7_no, Cond.code yX7_no cX7_no 2 (some .int), Cond.methodLink RX7 136 yX6_pass, Cond.instanceMethod yX6_pass, Cond.selects RX6 yX6_pass yX6_pass, Cond.initialized RX6, Cond.code yX6_pass cX6_pass 3 (some .boolean), Cond.fieldLink RX6 3 "WishWellModel$State" "this$0" "LWishWellModel;", Cond.fieldLink RX6 38 "WishWellModel$State" "today" "I", Cond.fieldLink RX6 19 "WishWellModel$State" "pile" "[I", Cond.fieldLink RX6 41 "WishWellModel$State" "turn" "I", Cond.fieldLink RX6 15 "WishWellModel$State" "favour" "I", Cond.fieldLink RX6 26 "WishWellModel$State" "how" "[I", Cond.fieldLink RX6 29 "WishWellModel$State" "when" "[I", Cond.methodLink RX6 51 Lib.Math.min.name, Cond.static Lib.Math.min.name]
def wsX7_pass_r2 : List Cond := [Cond.initialized "java/lang/Math", Cond.code Lib.Math.min.name Lib.Math.min.code 2 (some .int), Cond.methodLink RX6 72 yX6_drop, Cond.instanceMethod yX6_drop, Cond.selects RX6 yX6_drop yX6_drop, Cond.code yX6_drop cX6_drop 2 none, Cond.fieldLink RX6 23 "WishWellModel$State" "came" "[I", Cond.methodLink RX6 79 yX6_next, Cond.instanceMethod yX6_next, Cond.selects RX6 yX6_next yX6_next, Cond.code yX6_next cX6_next 4 (some .int)]
def wsX7_pass : List Cond := .code yX7_pass cX7_pass 4 (some .int) :: ((wsX7_pass_r1 ++ wsX7_pass_r2) ++ wsX70 ++ wsX60 ++ (vx_atM "java/lang/ArrayIndexOutOfBoundsException" ["java/lang/IndexOutOfBoundsException", "java/lang/RuntimeException", "java/lang/Exception"]).filter goodWord)
def wsX7_next : List Cond := .code yX7_next cX7_next 2 (some .int) :: ([.fieldLink RX7 46 "WishWellModel" "thrown" "I", .fieldLink RX7 39 "WishWellModel" "s" "LWishWellModel$State;", .methodLink RX7 53 yX7_isIn, .static yX7_isIn, .initialized RX7, .code yX7_isIn cX7_isIn 3 (some .boolean), .methodLink RX7 140 yX6_next, .instanceMethod yX6_next, .selects RX6 yX6_next yX6_next, .initialized RX6, .code yX6_next cX6_next 4 (some .int), .fieldLink RX6 3 "WishWellModel$State" "this$0" "LWishWellModel;", .fieldLink RX6 26 "WishWellModel$State" "how" "[I", .methodLink RX7 60 yX7_no, .instanceMethod yX7_no, .selects RX7 yX7_no yX7_no, .code yX7_no cX7_no 2 (some .int)] ++ wsX70 ++ wsX60 ++ (vx_atM "java/lang/ArrayIndexOutOfBoundsException" ["java/lang/IndexOutOfBoundsException", "java/lang/RuntimeException", "java/lang/Exception"]).filter goodWord)
def wsX7_waits_r1 : List Cond := [Cond.fieldLink RX7 46 "WishWellModel" "thrown" "I", Cond.fieldLink RX7 43 "WishWellModel" "ahead" "LWishWellModel$State;", Cond.fieldLink RX7 39 "WishWellModel" "s" "LWishWellModel$State;", Cond.methodLink RX7 78 yX7_isWish, Cond.instanceMethod yX7_isWish, Cond.selects RX7 yX7_isWish yX7_isWish, Cond.initialized RX7, Cond.code yX7_isWish cX7_isWish 2 (some .boolean), Cond.fieldLink RX7 57 "WishWellModel" "wishes" "I", Cond.methodLink RX7 53 yX7_isIn, Cond.static yX7_isIn, Cond.code yX7_isIn cX7_isIn 3 (some .boolean), Cond.methodLink RX7 60 yX7_no, Cond.instanceMethod yX7_no, Cond.selects RX7 yX7_no yX7_no, Cond.code yX7_no cX7_no 2 (some .int), Cond.methodLink RX7 143 yX6_become, Cond.instanceMethod yX6_become, Cond.selects RX6 yX6_become yX6_become, Cond.initialized RX6, Cond.code yX6_become cX6_become 2 none, Cond.fieldLink RX6 38 "WishWellModel$State" "today" "I", Cond.fieldLink RX6 15 "WishWellModel$State" "favour" "I", Cond.fieldLink RX6 41 "WishWellModel$State" "turn" "I"]
def wsX7_waits_r2 : List Cond := [Cond.fieldLink RX6 19 "WishWellModel$State" "pile" "[I", Cond.fieldLink RX6 23 "WishWellModel$State" "came" "[I", Cond.fieldLink RX6 26 "WishWellModel$State" "how" "[I", Cond.fieldLink RX6 29 "WishWellModel$State" "when" "[I", Cond.methodLink RX6 44 yX6_copy, Cond.instanceMethod yX6_copy, Cond.selects RX6 yX6_copy yX6_copy, Cond.code yX6_copy cX6_copy 3 none, Cond.methodLink RX6 32 arraycopyName, Cond.native arraycopyName, Cond.static arraycopyName, Cond.initialized "java/lang/System", Cond.methodLink RX7 136 yX6_pass, Cond.instanceMethod yX6_pass, Cond.selects RX6 yX6_pass yX6_pass, Cond.code yX6_pass cX6_pass 3 (some .boolean), Cond.fieldLink RX6 3 "WishWellModel$State" "this$0" "LWishWellModel;", Cond.methodLink RX6 51 Lib.Math.min.name, Cond.static Lib.Math.min.name, Cond.initialized "java/lang/Math", Cond.code Lib.Math.min.name Lib.Math.min.code 2 (some .int), Cond.methodLink RX6 72 yX6_drop, Cond.instanceMethod yX6_drop, Cond.selects RX6 yX6_drop yX6_drop]
def wsX7_waits_r3 : List Cond := [Cond.code yX6_drop cX6_drop 2 none, Cond.methodLink RX6 79 yX6_next, Cond.instanceMethod yX6_next, Cond.selects RX6 yX6_next yX6_next, Cond.code yX6_next cX6_next 4 (some .int)]
def wsX7_waits : List Cond := .code yX7_waits cX7_waits 3 (some .int) :: ((wsX7_waits_r1 ++ (wsX7_waits_r2 ++ wsX7_waits_r3)) ++ wsX70 ++ wsX60 ++ (vx_atM "java/lang/ArrayIndexOutOfBoundsException" ["java/lang/IndexOutOfBoundsException", "java/lang/RuntimeException", "java/lang/Exception"]).filter goodWord)
def wsX7_foresee_r1 : List Cond := [Cond.fieldLink RX7 46 "WishWellModel" "thrown" "I", Cond.fieldLink RX7 43 "WishWellModel" "ahead" "LWishWellModel$State;", Cond.fieldLink RX7 39 "WishWellModel" "s" "LWishWellModel$State;", Cond.methodLink RX7 53 yX7_isIn, Cond.static yX7_isIn, Cond.initialized RX7, Cond.code yX7_isIn cX7_isIn 3 (some .boolean), Cond.methodLink RX7 60 yX7_no, Cond.instanceMethod yX7_no, Cond.selects RX7 yX7_no yX7_no, Cond.code yX7_no cX7_no 2 (some .int), Cond.methodLink RX7 143 yX6_become, Cond.instanceMethod yX6_become, Cond.selects RX6 yX6_become yX6_become, Cond.initialized RX6, Cond.code yX6_become cX6_become 2 none, Cond.fieldLink RX6 38 "WishWellModel$State" "today" "I", Cond.fieldLink RX6 15 "WishWellModel$State" "favour" "I", Cond.fieldLink RX6 41 "WishWellModel$State" "turn" "I", Cond.fieldLink RX6 19 "WishWellModel$State" "pile" "[I", Cond.fieldLink RX6 23 "WishWellModel$State" "came" "[I", Cond.fieldLink RX6 26 "WishWellModel$State" "how" "[I", Cond.fieldLink RX6 29 "WishWellModel$State" "when" "[I", Cond.methodLink RX6 44 yX6_copy]
def wsX7_foresee_r2 : List Cond := [Cond.instanceMethod yX6_copy, Cond.selects RX6 yX6_copy yX6_copy, Cond.code yX6_copy cX6_copy 3 none, Cond.methodLink RX6 32 arraycopyName, Cond.native arraycopyName, Cond.static arraycopyName, Cond.initialized "java/lang/System", Cond.methodLink RX7 136 yX6_pass, Cond.instanceMethod yX6_pass, Cond.selects RX6 yX6_pass yX6_pass, Cond.code yX6_pass cX6_pass 3 (some .boolean), Cond.fieldLink RX6 3 "WishWellModel$State" "this$0" "LWishWellModel;", Cond.methodLink RX6 51 Lib.Math.min.name, Cond.static Lib.Math.min.name, Cond.initialized "java/lang/Math", Cond.code Lib.Math.min.name Lib.Math.min.code 2 (some .int), Cond.methodLink RX6 72 yX6_drop, Cond.instanceMethod yX6_drop, Cond.selects RX6 yX6_drop yX6_drop, Cond.code yX6_drop cX6_drop 2 none, Cond.methodLink RX6 79 yX6_next, Cond.instanceMethod yX6_next, Cond.selects RX6 yX6_next yX6_next, Cond.code yX6_next cX6_next 4 (some .int)]
def wsX7_foresee_r3 : List Cond := [Cond.methodLink RX7 102 yX6_coins, Cond.instanceMethod yX6_coins, Cond.selects RX6 yX6_coins yX6_coins, Cond.code yX6_coins cX6_coins 4 (some .int), Cond.methodLink RX7 129 yX6_allWorth, Cond.instanceMethod yX6_allWorth, Cond.selects RX6 yX6_allWorth yX6_allWorth, Cond.code yX6_allWorth cX6_allWorth 3 (some .int), Cond.methodLink RX6 83 yX6_worth, Cond.instanceMethod yX6_worth, Cond.selects RX6 yX6_worth yX6_worth, Cond.code yX6_worth cX6_worth 4 (some .int)]
def wsX7_foresee : List Cond := .code yX7_foresee cX7_foresee 4 (some .int) :: ((wsX7_foresee_r1 ++ (wsX7_foresee_r2 ++ wsX7_foresee_r3)) ++ wsX70 ++ wsX60 ++ (vx_atM "java/lang/ArrayIndexOutOfBoundsException" ["java/lang/IndexOutOfBoundsException", "java/lang/RuntimeException", "java/lang/Exception"]).filter goodWord)
def wsX7_richest : List Cond := .code yX7_richest cX7_richest 4 (some .int) :: ([.fieldLink RX7 46 "WishWellModel" "thrown" "I", .fieldLink RX7 39 "WishWellModel" "s" "LWishWellModel$State;", .methodLink RX7 108 yX6_worth, .instanceMethod yX6_worth, .selects RX6 yX6_worth yX6_worth, .initialized RX6, .code yX6_worth cX6_worth 4 (some .int), .fieldLink RX6 3 "WishWellModel$State" "this$0" "LWishWellModel;", .fieldLink RX6 19 "WishWellModel$State" "pile" "[I"] ++ wsX70 ++ wsX60 ++ (vx_atM "java/lang/ArrayIndexOutOfBoundsException" ["java/lang/IndexOutOfBoundsException", "java/lang/RuntimeException", "java/lang/Exception"]).filter goodWord)
def wsJ7_rangeCheck_23922 : List Cond := .code yJ7_rangeCheck_23922 cJ7_rangeCheck_23922 3 none :: ([.classLink RJ7 45 RJ4, .instantiable RJ4 4, .initialized RJ4, .classLink RJ7 68 RJx00060, .instantiable RJx00060 6, .initialized RJx00060] ++ wsJ40 ++ wsJx000600)
def wsJ7_fill_fda19 : List Cond := .code yJ7_fill_fda19 cJ7_fill_fda19 5 none :: ([.methodLink RJ7 13 yJ7_rangeCheck_23922, .static yJ7_rangeCheck_23922, .initialized RJ7, .code yJ7_rangeCheck_23922 cJ7_rangeCheck_23922 3 none, .classLink RJ7 45 RJ4, .instantiable RJ4 4, .initialized RJ4, .classLink RJ7 68 RJx00060, .instantiable RJx00060 6, .initialized RJx00060] ++ wsJ40 ++ wsJx000600)
def wsX7_change_r1 : List Cond := [Cond.fieldLink RX7 46 "WishWellModel" "thrown" "I", Cond.arrayClass .int, Cond.fieldLink RX7 50 "WishWellModel" "lands" "I", Cond.fieldLink RX7 39 "WishWellModel" "s" "LWishWellModel$State;", Cond.fieldLink RX7 9 "WishWellModel" "value" "[I", Cond.methodLink RX7 153 Lib.Math.min.name, Cond.static Lib.Math.min.name, Cond.initialized "java/lang/Math", Cond.code Lib.Math.min.name Lib.Math.min.code 2 (some .int), Cond.methodLink RX7 53 yX7_isIn, Cond.static yX7_isIn, Cond.initialized RX7, Cond.code yX7_isIn cX7_isIn 3 (some .boolean), Cond.methodLink RX7 60 yX7_no, Cond.instanceMethod yX7_no, Cond.selects RX7 yX7_no yX7_no, Cond.code yX7_no cX7_no 2 (some .int), Cond.methodLink RX7 147 yJ7_fill_fda19, Cond.static yJ7_fill_fda19, Cond.initialized RJ7, Cond.code yJ7_fill_fda19 cJ7_fill_fda19 5 none, Cond.methodLink RJ7 13 yJ7_rangeCheck_23922, Cond.static yJ7_rangeCheck_23922, Cond.code yJ7_rangeCheck_23922 cJ7_rangeCheck_23922 3 none]
def wsX7_change_r2 : List Cond := [Cond.classLink RJ7 45 RJ4, Cond.instantiable RJ4 4, Cond.initialized RJ4, Cond.classLink RJ7 68 RJx00060, Cond.instantiable RJx00060 6, Cond.initialized RJx00060, Cond.methodLink RX7 114 yX6_all, Cond.instanceMethod yX6_all, Cond.selects RX6 yX6_all yX6_all, Cond.initialized RX6, Cond.code yX6_all cX6_all 4 (some .int), Cond.fieldLink RX6 19 "WishWellModel$State" "pile" "[I"]
def wsX7_change : List Cond := .code yX7_change cX7_change 7 (some .int) :: ((wsX7_change_r1 ++ wsX7_change_r2) ++ wsX70 ++ wsJ40 ++ wsJx000600 ++ wsX60 ++ (vx_atM "java/lang/ArrayIndexOutOfBoundsException" ["java/lang/IndexOutOfBoundsException", "java/lang/RuntimeException", "java/lang/Exception"]).filter goodWord)
def wsX7_mean : List Cond := .code yX7_mean cX7_mean 4 (some .double) :: ([.fieldLink RX7 46 "WishWellModel" "thrown" "I", .fieldLink RX7 57 "WishWellModel" "wishes" "I", .fieldLink RX7 39 "WishWellModel" "s" "LWishWellModel$State;", .fieldLink RX7 31 "WishWellModel" "day" "[I"] ++ wsX70 ++ wsX60 ++ (vx_atM "java/lang/ArrayIndexOutOfBoundsException" ["java/lang/IndexOutOfBoundsException", "java/lang/RuntimeException", "java/lang/Exception"]).filter goodWord)
def wsX7_digest_r1 : List Cond := [Cond.fieldLink RX7 46 "WishWellModel" "thrown" "I", Cond.constantLong RX7 156 (821), Cond.constantLong RX7 158 (31), Cond.fieldLink RX7 16 "WishWellModel" "tide" "[I", Cond.fieldLink RX7 50 "WishWellModel" "lands" "I", Cond.fieldLink RX7 39 "WishWellModel" "s" "LWishWellModel$State;", Cond.fieldLink RX7 57 "WishWellModel" "wishes" "I", Cond.methodLink RX7 133 yX7_counted, Cond.instanceMethod yX7_counted, Cond.selects RX7 yX7_counted yX7_counted, Cond.initialized RX7, Cond.code yX7_counted cX7_counted 5 (some .int), Cond.arrayClass .int, Cond.fieldLink RX7 105 "WishWellModel" "purse" "I", Cond.fieldLink RX7 99 "WishWellModel" "fished" "I", Cond.methodLink RX7 102 yX6_coins, Cond.instanceMethod yX6_coins, Cond.selects RX6 yX6_coins yX6_coins, Cond.initialized RX6, Cond.code yX6_coins cX6_coins 4 (some .int), Cond.fieldLink RX6 19 "WishWellModel$State" "pile" "[I", Cond.methodLink RX7 129 yX6_allWorth, Cond.instanceMethod yX6_allWorth, Cond.selects RX6 yX6_allWorth yX6_allWorth]
def wsX7_digest_r2 : List Cond := [Cond.code yX6_allWorth cX6_allWorth 3 (some .int), Cond.methodLink RX6 83 yX6_worth, Cond.instanceMethod yX6_worth, Cond.selects RX6 yX6_worth yX6_worth, Cond.code yX6_worth cX6_worth 4 (some .int), Cond.fieldLink RX6 3 "WishWellModel$State" "this$0" "LWishWellModel;", Cond.methodLink RX7 120 yX7_landTold, Cond.instanceMethod yX7_landTold, Cond.selects RX7 yX7_landTold yX7_landTold, Cond.code yX7_landTold cX7_landTold 4 (some .int), Cond.fieldLink RX7 9 "WishWellModel" "value" "[I", Cond.fieldLink RX7 13 "WishWellModel" "weight" "[I", Cond.fieldLink RX7 19 "WishWellModel" "audited" "[I", Cond.methodLink RX7 114 yX6_all, Cond.instanceMethod yX6_all, Cond.selects RX6 yX6_all yX6_all, Cond.code yX6_all cX6_all 4 (some .int), Cond.methodLink RX7 117 yX7_missed, Cond.instanceMethod yX7_missed, Cond.selects RX7 yX7_missed yX7_missed, Cond.code yX7_missed cX7_missed 2 (some .int), Cond.fieldLink RX7 22 "WishWellModel" "back" "[I", Cond.methodLink RX7 123 yX7_wishTold, Cond.instanceMethod yX7_wishTold]
def wsX7_digest_r3 : List Cond := [Cond.selects RX7 yX7_wishTold yX7_wishTold, Cond.code yX7_wishTold cX7_wishTold 4 (some .int), Cond.fieldLink RX7 25 "WishWellModel" "kind" "[I", Cond.fieldLink RX7 28 "WishWellModel" "landOf" "[I", Cond.fieldLink RX7 31 "WishWellModel" "day" "[I"]
def wsX7_digest : List Cond := .code yX7_digest cX7_digest 5 (some .long) :: ((wsX7_digest_r1 ++ (wsX7_digest_r2 ++ wsX7_digest_r3)) ++ wsX70 ++ wsX60 ++ (vx_atM "java/lang/ArrayIndexOutOfBoundsException" ["java/lang/IndexOutOfBoundsException", "java/lang/RuntimeException", "java/lang/Exception"]).filter goodWord)
abbrev vwCl : List vw_C := [(RJ0, TJ0, 4), (RJ4, TJ4, 4), (RJx00060, TJx00060, 6), (RX0, TX0, 6), (RX1, TX1, 1), (RX2, TX2, 1), (RX3, TX3, 9), (RX4, TX4, 6), (RX5, TX5, 3), (RX6, TX6, 8), (RX7, TX7, 15)]
end
section
set_option maxRecDepth 20000 in
theorem ggX0_init_X2_init : GoodIn wsX0_init wsX2_init := goodIn_r _ [14, 15, 2, 3, 16, 17, 18] (by decide +kernel) (by decide +kernel)
set_option maxRecDepth 20000 in
theorem gX0_init_X2_init : GoodIn wsX0_init (wsX2_init) := ggX0_init_X2_init
theorem dX0_init_0 : decode cX0_init 0 = .ok (.aload_n 0, 1) := by decide +kernel
theorem dX0_init_1 : decode cX0_init 1 = .ok (.invokespecial 3, 3) := by decide +kernel
theorem dX0_init_4 : decode cX0_init 4 = .ok (.aload_n 0, 1) := by decide +kernel
theorem dX0_init_5 : decode cX0_init 5 = .ok (.new 9, 3) := by decide +kernel
theorem dX0_init_8 : decode cX0_init 8 = .ok (.dup, 1) := by decide +kernel
theorem dX0_init_9 : decode cX0_init 9 = .ok (.bipush 6, 2) := by decide +kernel
theorem dX0_init_11 : decode cX0_init 11 = .ok (.invokespecial 11, 3) := by decide +kernel
theorem dX0_init_14 : decode cX0_init 14 = .ok (.putfield 14, 3) := by decide +kernel
theorem dX0_init_17 : decode cX0_init 17 = .ok (.aload_n 0, 1) := by decide +kernel
theorem dX0_init_18 : decode cX0_init 18 = .ok (.new 9, 3) := by decide +kernel
theorem dX0_init_21 : decode cX0_init 21 = .ok (.dup, 1) := by decide +kernel
theorem dX0_init_22 : decode cX0_init 22 = .ok (.bipush 6, 2) := by decide +kernel
theorem dX0_init_24 : decode cX0_init 24 = .ok (.invokespecial 11, 3) := by decide +kernel
theorem dX0_init_27 : decode cX0_init 27 = .ok (.putfield 20, 3) := by decide +kernel
theorem dX0_init_30 : decode cX0_init 30 = .ok (.aload_n 0, 1) := by decide +kernel
theorem dX0_init_31 : decode cX0_init 31 = .ok (.new 9, 3) := by decide +kernel
theorem dX0_init_34 : decode cX0_init 34 = .ok (.dup, 1) := by decide +kernel
theorem dX0_init_35 : decode cX0_init 35 = .ok (.bipush 6, 2) := by decide +kernel
theorem dX0_init_37 : decode cX0_init 37 = .ok (.invokespecial 11, 3) := by decide +kernel
theorem dX0_init_40 : decode cX0_init 40 = .ok (.putfield 23, 3) := by decide +kernel
theorem dX0_init_43 : decode cX0_init 43 = .ok (.aload_n 0, 1) := by decide +kernel
theorem dX0_init_44 : decode cX0_init 44 = .ok (.new 9, 3) := by decide +kernel
theorem dX0_init_47 : decode cX0_init 47 = .ok (.dup, 1) := by decide +kernel
theorem dX0_init_48 : decode cX0_init 48 = .ok (.bipush 6, 2) := by decide +kernel
theorem dX0_init_50 : decode cX0_init 50 = .ok (.invokespecial 11, 3) := by decide +kernel
theorem dX0_init_53 : decode cX0_init 53 = .ok (.putfield 26, 3) := by decide +kernel
theorem dX0_init_56 : decode cX0_init 56 = .ok (.aload_n 0, 1) := by decide +kernel
theorem dX0_init_57 : decode cX0_init 57 = .ok (.new 9, 3) := by decide +kernel
theorem dX0_init_60 : decode cX0_init 60 = .ok (.dup, 1) := by decide +kernel
theorem dX0_init_61 : decode cX0_init 61 = .ok (.bipush 6, 2) := by decide +kernel
theorem dX0_init_63 : decode cX0_init 63 = .ok (.invokespecial 11, 3) := by decide +kernel
theorem dX0_init_66 : decode cX0_init 66 = .ok (.putfield 29, 3) := by decide +kernel
theorem dX0_init_69 : decode cX0_init 69 = .ok (.return_, 1) := by decide +kernel
theorem dX0_has_0 : decode cX0_has 0 = .ok (.iload_n 1, 1) := by decide +kernel
theorem dX0_has_1 : decode cX0_has 1 = .ok (.ifCond .lt 15, 3) := by decide +kernel
theorem dX0_has_4 : decode cX0_has 4 = .ok (.iload_n 1, 1) := by decide +kernel
theorem dX0_has_5 : decode cX0_has 5 = .ok (.aload_n 0, 1) := by decide +kernel
theorem dX0_has_6 : decode cX0_has 6 = .ok (.getfield 32, 3) := by decide +kernel
theorem dX0_has_9 : decode cX0_has 9 = .ok (.if_icmp .ge 7, 3) := by decide +kernel
theorem dX0_has_12 : decode cX0_has 12 = .ok (.iconst 1, 1) := by decide +kernel
theorem dX0_has_13 : decode cX0_has 13 = .ok (.goto 4, 3) := by decide +kernel
theorem dX0_has_16 : decode cX0_has 16 = .ok (.iconst 0, 1) := by decide +kernel
theorem dX0_has_17 : decode cX0_has 17 = .ok (.ireturn, 1) := by decide +kernel
set_option maxRecDepth 20000 in
theorem ggX0_tell_X2_put : GoodIn wsX0_tell wsX2_put := goodIn_ca (goodIn_r _ [8, 9, 16] (by decide +kernel) (by decide +kernel)) (goodIn_sub (fun _ h => List.mem_cons_of_mem _ (List.mem_append_right _ h)) (by decide +kernel))
set_option maxRecDepth 20000 in
theorem gX0_tell_X2_put : GoodIn wsX0_tell (wsV RX0 36 RX2 yX2_put wsX2_put) := goodIn_app (goodIn_of _ (by decide +kernel)) ggX0_tell_X2_put
theorem dX0_tell_0 : decode cX0_tell 0 = .ok (.aload_n 0, 1) := by decide +kernel
theorem dX0_tell_1 : decode cX0_tell 1 = .ok (.getfield 32, 3) := by decide +kernel
theorem dX0_tell_4 : decode cX0_tell 4 = .ok (.istore_n 3, 1) := by decide +kernel
theorem dX0_tell_5 : decode cX0_tell 5 = .ok (.aload_n 0, 1) := by decide +kernel
theorem dX0_tell_6 : decode cX0_tell 6 = .ok (.getfield 14, 3) := by decide +kernel
theorem dX0_tell_9 : decode cX0_tell 9 = .ok (.iload_n 3, 1) := by decide +kernel
theorem dX0_tell_10 : decode cX0_tell 10 = .ok (.iload_n 1, 1) := by decide +kernel
theorem dX0_tell_11 : decode cX0_tell 11 = .ok (.invokevirtual 36, 3) := by decide +kernel
theorem dX0_tell_14 : decode cX0_tell 14 = .ok (.aload_n 0, 1) := by decide +kernel
theorem dX0_tell_15 : decode cX0_tell 15 = .ok (.getfield 20, 3) := by decide +kernel
theorem dX0_tell_18 : decode cX0_tell 18 = .ok (.iload_n 3, 1) := by decide +kernel
theorem dX0_tell_19 : decode cX0_tell 19 = .ok (.iload_n 2, 1) := by decide +kernel
theorem dX0_tell_20 : decode cX0_tell 20 = .ok (.invokevirtual 36, 3) := by decide +kernel
theorem dX0_tell_23 : decode cX0_tell 23 = .ok (.aload_n 0, 1) := by decide +kernel
theorem dX0_tell_24 : decode cX0_tell 24 = .ok (.iload_n 3, 1) := by decide +kernel
theorem dX0_tell_25 : decode cX0_tell 25 = .ok (.iconst 1, 1) := by decide +kernel
theorem dX0_tell_26 : decode cX0_tell 26 = .ok (.iadd, 1) := by decide +kernel
theorem dX0_tell_27 : decode cX0_tell 27 = .ok (.putfield 32, 3) := by decide +kernel
theorem dX0_tell_30 : decode cX0_tell 30 = .ok (.iload_n 3, 1) := by decide +kernel
theorem dX0_tell_31 : decode cX0_tell 31 = .ok (.ireturn, 1) := by decide +kernel
set_option maxRecDepth 20000 in
theorem ggX0_takeOver_X2_takeOver : GoodIn wsX0_takeOver wsX2_takeOver := goodIn_r _ [11, 12, 13, 14, 15, 16, 17, 18, 19, 20, 27] (by decide +kernel) (by decide +kernel)
set_option maxRecDepth 20000 in
theorem gX0_takeOver_X2_takeOver : GoodIn wsX0_takeOver (wsV RX0 40 RX2 yX2_takeOver wsX2_takeOver) := goodIn_app (goodIn_of _ (by decide +kernel)) ggX0_takeOver_X2_takeOver
theorem dX0_takeOver_0 : decode cX0_takeOver 0 = .ok (.aload_n 0, 1) := by decide +kernel
theorem dX0_takeOver_1 : decode cX0_takeOver 1 = .ok (.getfield 14, 3) := by decide +kernel
theorem dX0_takeOver_4 : decode cX0_takeOver 4 = .ok (.aload_n 1, 1) := by decide +kernel
theorem dX0_takeOver_5 : decode cX0_takeOver 5 = .ok (.getfield 14, 3) := by decide +kernel
theorem dX0_takeOver_8 : decode cX0_takeOver 8 = .ok (.invokevirtual 40, 3) := by decide +kernel
theorem dX0_takeOver_11 : decode cX0_takeOver 11 = .ok (.aload_n 0, 1) := by decide +kernel
theorem dX0_takeOver_12 : decode cX0_takeOver 12 = .ok (.getfield 20, 3) := by decide +kernel
theorem dX0_takeOver_15 : decode cX0_takeOver 15 = .ok (.aload_n 1, 1) := by decide +kernel
theorem dX0_takeOver_16 : decode cX0_takeOver 16 = .ok (.getfield 20, 3) := by decide +kernel
theorem dX0_takeOver_19 : decode cX0_takeOver 19 = .ok (.invokevirtual 40, 3) := by decide +kernel
theorem dX0_takeOver_22 : decode cX0_takeOver 22 = .ok (.aload_n 0, 1) := by decide +kernel
theorem dX0_takeOver_23 : decode cX0_takeOver 23 = .ok (.getfield 23, 3) := by decide +kernel
theorem dX0_takeOver_26 : decode cX0_takeOver 26 = .ok (.aload_n 1, 1) := by decide +kernel
theorem dX0_takeOver_27 : decode cX0_takeOver 27 = .ok (.getfield 23, 3) := by decide +kernel
theorem dX0_takeOver_30 : decode cX0_takeOver 30 = .ok (.invokevirtual 40, 3) := by decide +kernel
theorem dX0_takeOver_33 : decode cX0_takeOver 33 = .ok (.aload_n 0, 1) := by decide +kernel
theorem dX0_takeOver_34 : decode cX0_takeOver 34 = .ok (.getfield 26, 3) := by decide +kernel
theorem dX0_takeOver_37 : decode cX0_takeOver 37 = .ok (.aload_n 1, 1) := by decide +kernel
theorem dX0_takeOver_38 : decode cX0_takeOver 38 = .ok (.getfield 26, 3) := by decide +kernel
theorem dX0_takeOver_41 : decode cX0_takeOver 41 = .ok (.invokevirtual 40, 3) := by decide +kernel
theorem dX0_takeOver_44 : decode cX0_takeOver 44 = .ok (.aload_n 0, 1) := by decide +kernel
theorem dX0_takeOver_45 : decode cX0_takeOver 45 = .ok (.getfield 29, 3) := by decide +kernel
theorem dX0_takeOver_48 : decode cX0_takeOver 48 = .ok (.aload_n 1, 1) := by decide +kernel
theorem dX0_takeOver_49 : decode cX0_takeOver 49 = .ok (.getfield 29, 3) := by decide +kernel
theorem dX0_takeOver_52 : decode cX0_takeOver 52 = .ok (.invokevirtual 40, 3) := by decide +kernel
theorem dX0_takeOver_55 : decode cX0_takeOver 55 = .ok (.aload_n 0, 1) := by decide +kernel
theorem dX0_takeOver_56 : decode cX0_takeOver 56 = .ok (.aload_n 1, 1) := by decide +kernel
theorem dX0_takeOver_57 : decode cX0_takeOver 57 = .ok (.getfield 32, 3) := by decide +kernel
theorem dX0_takeOver_60 : decode cX0_takeOver 60 = .ok (.putfield 32, 3) := by decide +kernel
theorem dX0_takeOver_63 : decode cX0_takeOver 63 = .ok (.return_, 1) := by decide +kernel
set_option maxRecDepth 20000 in
theorem ggX1_init_X2_init : GoodIn wsX1_init wsX2_init := goodIn_r _ [10, 11, 2, 3, 12, 13, 14] (by decide +kernel) (by decide +kernel)
set_option maxRecDepth 20000 in
theorem gX1_init_X2_init : GoodIn wsX1_init (wsX2_init) := ggX1_init_X2_init
theorem dX1_init_0 : decode cX1_init 0 = .ok (.aload_n 0, 1) := by decide +kernel
theorem dX1_init_1 : decode cX1_init 1 = .ok (.invokespecial 3, 3) := by decide +kernel
theorem dX1_init_4 : decode cX1_init 4 = .ok (.aload_n 0, 1) := by decide +kernel
theorem dX1_init_5 : decode cX1_init 5 = .ok (.new 9, 3) := by decide +kernel
theorem dX1_init_8 : decode cX1_init 8 = .ok (.dup, 1) := by decide +kernel
theorem dX1_init_9 : decode cX1_init 9 = .ok (.bipush 30, 2) := by decide +kernel
theorem dX1_init_11 : decode cX1_init 11 = .ok (.invokespecial 11, 3) := by decide +kernel
theorem dX1_init_14 : decode cX1_init 14 = .ok (.putfield 14, 3) := by decide +kernel
theorem dX1_init_17 : decode cX1_init 17 = .ok (.return_, 1) := by decide +kernel
set_option maxRecDepth 20000 in
theorem ggX1_at_X1_place : GoodIn wsX1_at wsX1_place := goodIn_r _ [5] (by decide +kernel) (by decide +kernel)
set_option maxRecDepth 20000 in
theorem gX1_at_X1_place : GoodIn wsX1_at (va_wsS RX1 20 yX1_place wsX1_place) := goodIn_app (goodIn_of _ (by decide +kernel)) ggX1_at_X1_place
set_option maxRecDepth 20000 in
theorem ggX1_at_X2_at : GoodIn wsX1_at wsX2_at := goodIn_ca (goodIn_r _ [10, 11, 13] (by decide +kernel) (by decide +kernel)) (goodIn_sub (fun _ h => List.mem_cons_of_mem _ (List.mem_append_right _ h)) (by decide +kernel))
set_option maxRecDepth 20000 in
theorem gX1_at_X2_at : GoodIn wsX1_at (wsV RX1 24 RX2 yX2_at wsX2_at) := goodIn_app (goodIn_of _ (by decide +kernel)) ggX1_at_X2_at
theorem dX1_at_0 : decode cX1_at 0 = .ok (.aload_n 0, 1) := by decide +kernel
theorem dX1_at_1 : decode cX1_at 1 = .ok (.getfield 14, 3) := by decide +kernel
theorem dX1_at_4 : decode cX1_at 4 = .ok (.iload_n 1, 1) := by decide +kernel
theorem dX1_at_5 : decode cX1_at 5 = .ok (.iload_n 2, 1) := by decide +kernel
theorem dX1_at_6 : decode cX1_at 6 = .ok (.invokestatic 20, 3) := by decide +kernel
theorem dX1_at_9 : decode cX1_at 9 = .ok (.invokevirtual 24, 3) := by decide +kernel
theorem dX1_at_12 : decode cX1_at 12 = .ok (.ireturn, 1) := by decide +kernel
set_option maxRecDepth 20000 in
theorem ggX1_add_X1_place : GoodIn wsX1_add wsX1_place := goodIn_r _ [5] (by decide +kernel) (by decide +kernel)
set_option maxRecDepth 20000 in
theorem gX1_add_X1_place : GoodIn wsX1_add (va_wsS RX1 20 yX1_place wsX1_place) := goodIn_app (goodIn_of _ (by decide +kernel)) ggX1_add_X1_place
set_option maxRecDepth 20000 in
theorem ggX1_add_X2_add : GoodIn wsX1_add wsX2_add := goodIn_ca (goodIn_r _ [10, 11, 13] (by decide +kernel) (by decide +kernel)) (goodIn_sub (fun _ h => List.mem_cons_of_mem _ (List.mem_append_right _ h)) (by decide +kernel))
set_option maxRecDepth 20000 in
theorem gX1_add_X2_add : GoodIn wsX1_add (wsV RX1 28 RX2 yX2_add wsX2_add) := goodIn_app (goodIn_of _ (by decide +kernel)) ggX1_add_X2_add
theorem dX1_add_0 : decode cX1_add 0 = .ok (.aload_n 0, 1) := by decide +kernel
theorem dX1_add_1 : decode cX1_add 1 = .ok (.getfield 14, 3) := by decide +kernel
theorem dX1_add_4 : decode cX1_add 4 = .ok (.iload_n 1, 1) := by decide +kernel
theorem dX1_add_5 : decode cX1_add 5 = .ok (.iload_n 2, 1) := by decide +kernel
theorem dX1_add_6 : decode cX1_add 6 = .ok (.invokestatic 20, 3) := by decide +kernel
theorem dX1_add_9 : decode cX1_add 9 = .ok (.iload_n 3, 1) := by decide +kernel
theorem dX1_add_10 : decode cX1_add 10 = .ok (.invokevirtual 28, 3) := by decide +kernel
theorem dX1_add_13 : decode cX1_add 13 = .ok (.return_, 1) := by decide +kernel
set_option maxRecDepth 20000 in
theorem ggX1_coinsIn_X1_at : GoodIn wsX1_coinsIn wsX1_at := goodIn_ca (goodIn_r _ [5, 6, 7, 8, 4, 9, 10, 11, 12, 13, 14, 15, 16, 17] (by decide +kernel) (by decide +kernel)) (goodIn_sub (fun _ h => List.mem_cons_of_mem _ (List.mem_append_right _ h)) (by decide +kernel))
set_option maxRecDepth 20000 in
theorem gX1_coinsIn_X1_at : GoodIn wsX1_coinsIn (wsV RX1 32 RX1 yX1_at wsX1_at) := goodIn_app (goodIn_of _ (by decide +kernel)) ggX1_coinsIn_X1_at
theorem dX1_coinsIn_0 : decode cX1_coinsIn 0 = .ok (.iconst 0, 1) := by decide +kernel
theorem dX1_coinsIn_1 : decode cX1_coinsIn 1 = .ok (.istore_n 2, 1) := by decide +kernel
theorem dX1_coinsIn_2 : decode cX1_coinsIn 2 = .ok (.iconst 0, 1) := by decide +kernel
theorem dX1_coinsIn_3 : decode cX1_coinsIn 3 = .ok (.istore_n 3, 1) := by decide +kernel
theorem dX1_coinsIn_4 : decode cX1_coinsIn 4 = .ok (.iload_n 3, 1) := by decide +kernel
theorem dX1_coinsIn_5 : decode cX1_coinsIn 5 = .ok (.bipush 6, 2) := by decide +kernel
theorem dX1_coinsIn_7 : decode cX1_coinsIn 7 = .ok (.if_icmp .ge 18, 3) := by decide +kernel
theorem dX1_coinsIn_10 : decode cX1_coinsIn 10 = .ok (.iload_n 2, 1) := by decide +kernel
theorem dX1_coinsIn_11 : decode cX1_coinsIn 11 = .ok (.aload_n 0, 1) := by decide +kernel
theorem dX1_coinsIn_12 : decode cX1_coinsIn 12 = .ok (.iload_n 1, 1) := by decide +kernel
theorem dX1_coinsIn_13 : decode cX1_coinsIn 13 = .ok (.iload_n 3, 1) := by decide +kernel
theorem dX1_coinsIn_14 : decode cX1_coinsIn 14 = .ok (.invokevirtual 32, 3) := by decide +kernel
theorem dX1_coinsIn_17 : decode cX1_coinsIn 17 = .ok (.iadd, 1) := by decide +kernel
theorem dX1_coinsIn_18 : decode cX1_coinsIn 18 = .ok (.istore_n 2, 1) := by decide +kernel
theorem dX1_coinsIn_19 : decode cX1_coinsIn 19 = .ok (.iinc 3 1, 3) := by decide +kernel
theorem dX1_coinsIn_22 : decode cX1_coinsIn 22 = .ok (.goto (-18), 3) := by decide +kernel
theorem dX1_coinsIn_25 : decode cX1_coinsIn 25 = .ok (.iload_n 2, 1) := by decide +kernel
theorem dX1_coinsIn_26 : decode cX1_coinsIn 26 = .ok (.ireturn, 1) := by decide +kernel
set_option maxRecDepth 20000 in
theorem ggX1_coinsOf_X1_at : GoodIn wsX1_coinsOf wsX1_at := goodIn_ca (goodIn_r _ [5, 6, 7, 8, 4, 9, 10, 11, 12, 13, 14, 15, 16, 17] (by decide +kernel) (by decide +kernel)) (goodIn_sub (fun _ h => List.mem_cons_of_mem _ (List.mem_append_right _ h)) (by decide +kernel))
set_option maxRecDepth 20000 in
theorem gX1_coinsOf_X1_at : GoodIn wsX1_coinsOf (wsV RX1 32 RX1 yX1_at wsX1_at) := goodIn_app (goodIn_of _ (by decide +kernel)) ggX1_coinsOf_X1_at
theorem dX1_coinsOf_0 : decode cX1_coinsOf 0 = .ok (.iconst 0, 1) := by decide +kernel
theorem dX1_coinsOf_1 : decode cX1_coinsOf 1 = .ok (.istore_n 2, 1) := by decide +kernel
theorem dX1_coinsOf_2 : decode cX1_coinsOf 2 = .ok (.iconst 0, 1) := by decide +kernel
theorem dX1_coinsOf_3 : decode cX1_coinsOf 3 = .ok (.istore_n 3, 1) := by decide +kernel
theorem dX1_coinsOf_4 : decode cX1_coinsOf 4 = .ok (.iload_n 3, 1) := by decide +kernel
theorem dX1_coinsOf_5 : decode cX1_coinsOf 5 = .ok (.iconst 5, 1) := by decide +kernel
theorem dX1_coinsOf_6 : decode cX1_coinsOf 6 = .ok (.if_icmp .ge 18, 3) := by decide +kernel
theorem dX1_coinsOf_9 : decode cX1_coinsOf 9 = .ok (.iload_n 2, 1) := by decide +kernel
theorem dX1_coinsOf_10 : decode cX1_coinsOf 10 = .ok (.aload_n 0, 1) := by decide +kernel
theorem dX1_coinsOf_11 : decode cX1_coinsOf 11 = .ok (.iload_n 3, 1) := by decide +kernel
theorem dX1_coinsOf_12 : decode cX1_coinsOf 12 = .ok (.iload_n 1, 1) := by decide +kernel
theorem dX1_coinsOf_13 : decode cX1_coinsOf 13 = .ok (.invokevirtual 32, 3) := by decide +kernel
theorem dX1_coinsOf_16 : decode cX1_coinsOf 16 = .ok (.iadd, 1) := by decide +kernel
theorem dX1_coinsOf_17 : decode cX1_coinsOf 17 = .ok (.istore_n 2, 1) := by decide +kernel
theorem dX1_coinsOf_18 : decode cX1_coinsOf 18 = .ok (.iinc 3 1, 3) := by decide +kernel
theorem dX1_coinsOf_21 : decode cX1_coinsOf 21 = .ok (.goto (-17), 3) := by decide +kernel
theorem dX1_coinsOf_24 : decode cX1_coinsOf 24 = .ok (.iload_n 2, 1) := by decide +kernel
theorem dX1_coinsOf_25 : decode cX1_coinsOf 25 = .ok (.ireturn, 1) := by decide +kernel
set_option maxRecDepth 20000 in
theorem ggX1_uppermostOf_X1_at : GoodIn wsX1_uppermostOf wsX1_at := goodIn_ca (goodIn_r _ [5, 6, 7, 8, 4, 9, 10, 11, 12, 13, 14, 15, 16, 17] (by decide +kernel) (by decide +kernel)) (goodIn_sub (fun _ h => List.mem_cons_of_mem _ (List.mem_append_right _ h)) (by decide +kernel))
set_option maxRecDepth 20000 in
theorem gX1_uppermostOf_X1_at : GoodIn wsX1_uppermostOf (wsV RX1 32 RX1 yX1_at wsX1_at) := goodIn_app (goodIn_of _ (by decide +kernel)) ggX1_uppermostOf_X1_at
theorem dX1_uppermostOf_0 : decode cX1_uppermostOf 0 = .ok (.iconst 0, 1) := by decide +kernel
theorem dX1_uppermostOf_1 : decode cX1_uppermostOf 1 = .ok (.istore_n 2, 1) := by decide +kernel
theorem dX1_uppermostOf_2 : decode cX1_uppermostOf 2 = .ok (.iload_n 2, 1) := by decide +kernel
theorem dX1_uppermostOf_3 : decode cX1_uppermostOf 3 = .ok (.iconst 5, 1) := by decide +kernel
theorem dX1_uppermostOf_4 : decode cX1_uppermostOf 4 = .ok (.if_icmp .ge 20, 3) := by decide +kernel
theorem dX1_uppermostOf_7 : decode cX1_uppermostOf 7 = .ok (.aload_n 0, 1) := by decide +kernel
theorem dX1_uppermostOf_8 : decode cX1_uppermostOf 8 = .ok (.iload_n 2, 1) := by decide +kernel
theorem dX1_uppermostOf_9 : decode cX1_uppermostOf 9 = .ok (.iload_n 1, 1) := by decide +kernel
theorem dX1_uppermostOf_10 : decode cX1_uppermostOf 10 = .ok (.invokevirtual 32, 3) := by decide +kernel
theorem dX1_uppermostOf_13 : decode cX1_uppermostOf 13 = .ok (.ifCond .le 5, 3) := by decide +kernel
theorem dX1_uppermostOf_16 : decode cX1_uppermostOf 16 = .ok (.iload_n 2, 1) := by decide +kernel
theorem dX1_uppermostOf_17 : decode cX1_uppermostOf 17 = .ok (.ireturn, 1) := by decide +kernel
theorem dX1_uppermostOf_18 : decode cX1_uppermostOf 18 = .ok (.iinc 2 1, 3) := by decide +kernel
theorem dX1_uppermostOf_21 : decode cX1_uppermostOf 21 = .ok (.goto (-19), 3) := by decide +kernel
theorem dX1_uppermostOf_24 : decode cX1_uppermostOf 24 = .ok (.iconst (-1), 1) := by decide +kernel
theorem dX1_uppermostOf_25 : decode cX1_uppermostOf 25 = .ok (.ireturn, 1) := by decide +kernel
set_option maxRecDepth 20000 in
theorem ggX1_takeOver_X2_takeOver : GoodIn wsX1_takeOver wsX2_takeOver := goodIn_r _ [6, 7, 8, 9, 10, 11, 12, 13, 14, 15, 17] (by decide +kernel) (by decide +kernel)
set_option maxRecDepth 20000 in
theorem gX1_takeOver_X2_takeOver : GoodIn wsX1_takeOver (wsV RX1 34 RX2 yX2_takeOver wsX2_takeOver) := goodIn_app (goodIn_of _ (by decide +kernel)) ggX1_takeOver_X2_takeOver
theorem dX1_takeOver_0 : decode cX1_takeOver 0 = .ok (.aload_n 0, 1) := by decide +kernel
theorem dX1_takeOver_1 : decode cX1_takeOver 1 = .ok (.getfield 14, 3) := by decide +kernel
theorem dX1_takeOver_4 : decode cX1_takeOver 4 = .ok (.aload_n 1, 1) := by decide +kernel
theorem dX1_takeOver_5 : decode cX1_takeOver 5 = .ok (.getfield 14, 3) := by decide +kernel
theorem dX1_takeOver_8 : decode cX1_takeOver 8 = .ok (.invokevirtual 34, 3) := by decide +kernel
theorem dX1_takeOver_11 : decode cX1_takeOver 11 = .ok (.return_, 1) := by decide +kernel
theorem dX1_place_0 : decode cX1_place 0 = .ok (.iload_n 0, 1) := by decide +kernel
theorem dX1_place_1 : decode cX1_place 1 = .ok (.ifCond .lt 22, 3) := by decide +kernel
theorem dX1_place_4 : decode cX1_place 4 = .ok (.iload_n 0, 1) := by decide +kernel
theorem dX1_place_5 : decode cX1_place 5 = .ok (.iconst 5, 1) := by decide +kernel
theorem dX1_place_6 : decode cX1_place 6 = .ok (.if_icmp .ge 17, 3) := by decide +kernel
theorem dX1_place_9 : decode cX1_place 9 = .ok (.iload_n 1, 1) := by decide +kernel
theorem dX1_place_10 : decode cX1_place 10 = .ok (.ifCond .lt 13, 3) := by decide +kernel
theorem dX1_place_13 : decode cX1_place 13 = .ok (.iload_n 1, 1) := by decide +kernel
theorem dX1_place_14 : decode cX1_place 14 = .ok (.bipush 6, 2) := by decide +kernel
theorem dX1_place_16 : decode cX1_place 16 = .ok (.if_icmp .ge 7, 3) := by decide +kernel
theorem dX1_place_19 : decode cX1_place 19 = .ok (.iconst 1, 1) := by decide +kernel
theorem dX1_place_20 : decode cX1_place 20 = .ok (.goto 4, 3) := by decide +kernel
theorem dX1_place_23 : decode cX1_place 23 = .ok (.iconst 0, 1) := by decide +kernel
theorem dX1_place_24 : decode cX1_place 24 = .ok (.istore_n 2, 1) := by decide +kernel
theorem dX1_place_25 : decode cX1_place 25 = .ok (.iload_n 2, 1) := by decide +kernel
theorem dX1_place_26 : decode cX1_place 26 = .ok (.ifCond .eq 12, 3) := by decide +kernel
theorem dX1_place_29 : decode cX1_place 29 = .ok (.iload_n 0, 1) := by decide +kernel
theorem dX1_place_30 : decode cX1_place 30 = .ok (.bipush 6, 2) := by decide +kernel
theorem dX1_place_32 : decode cX1_place 32 = .ok (.imul, 1) := by decide +kernel
theorem dX1_place_33 : decode cX1_place 33 = .ok (.iload_n 1, 1) := by decide +kernel
theorem dX1_place_34 : decode cX1_place 34 = .ok (.iadd, 1) := by decide +kernel
theorem dX1_place_35 : decode cX1_place 35 = .ok (.goto 4, 3) := by decide +kernel
theorem dX1_place_38 : decode cX1_place 38 = .ok (.iconst (-1), 1) := by decide +kernel
theorem dX1_place_39 : decode cX1_place 39 = .ok (.ireturn, 1) := by decide +kernel
theorem dX2_init_0 : decode cX2_init 0 = .ok (.aload_n 0, 1) := by decide +kernel
theorem dX2_init_1 : decode cX2_init 1 = .ok (.invokespecial 1, 3) := by decide +kernel
theorem dX2_init_4 : decode cX2_init 4 = .ok (.aload_n 0, 1) := by decide +kernel
theorem dX2_init_5 : decode cX2_init 5 = .ok (.iload_n 1, 1) := by decide +kernel
theorem dX2_init_6 : decode cX2_init 6 = .ok (.ifCond .ge 7, 3) := by decide +kernel
theorem dX2_init_9 : decode cX2_init 9 = .ok (.iconst 0, 1) := by decide +kernel
theorem dX2_init_10 : decode cX2_init 10 = .ok (.goto 4, 3) := by decide +kernel
theorem dX2_init_13 : decode cX2_init 13 = .ok (.iload_n 1, 1) := by decide +kernel
theorem dX2_init_14 : decode cX2_init 14 = .ok (.newarray .int, 2) := by decide +kernel
theorem dX2_init_16 : decode cX2_init 16 = .ok (.putfield 7, 3) := by decide +kernel
theorem dX2_init_19 : decode cX2_init 19 = .ok (.return_, 1) := by decide +kernel
theorem dX2_at_0 : decode cX2_at 0 = .ok (.iload_n 1, 1) := by decide +kernel
theorem dX2_at_1 : decode cX2_at 1 = .ok (.ifCond .lt 21, 3) := by decide +kernel
theorem dX2_at_4 : decode cX2_at 4 = .ok (.iload_n 1, 1) := by decide +kernel
theorem dX2_at_5 : decode cX2_at 5 = .ok (.aload_n 0, 1) := by decide +kernel
theorem dX2_at_6 : decode cX2_at 6 = .ok (.getfield 7, 3) := by decide +kernel
theorem dX2_at_9 : decode cX2_at 9 = .ok (.arraylength, 1) := by decide +kernel
theorem dX2_at_10 : decode cX2_at 10 = .ok (.if_icmp .ge 12, 3) := by decide +kernel
theorem dX2_at_13 : decode cX2_at 13 = .ok (.aload_n 0, 1) := by decide +kernel
theorem dX2_at_14 : decode cX2_at 14 = .ok (.getfield 7, 3) := by decide +kernel
theorem dX2_at_17 : decode cX2_at 17 = .ok (.iload_n 1, 1) := by decide +kernel
theorem dX2_at_18 : decode cX2_at 18 = .ok (.iaload, 1) := by decide +kernel
theorem dX2_at_19 : decode cX2_at 19 = .ok (.goto 4, 3) := by decide +kernel
theorem dX2_at_22 : decode cX2_at 22 = .ok (.iconst 0, 1) := by decide +kernel
theorem dX2_at_23 : decode cX2_at 23 = .ok (.ireturn, 1) := by decide +kernel
theorem dX2_put_0 : decode cX2_put 0 = .ok (.iload_n 1, 1) := by decide +kernel
theorem dX2_put_1 : decode cX2_put 1 = .ok (.ifCond .lt 19, 3) := by decide +kernel
theorem dX2_put_4 : decode cX2_put 4 = .ok (.iload_n 1, 1) := by decide +kernel
theorem dX2_put_5 : decode cX2_put 5 = .ok (.aload_n 0, 1) := by decide +kernel
theorem dX2_put_6 : decode cX2_put 6 = .ok (.getfield 7, 3) := by decide +kernel
theorem dX2_put_9 : decode cX2_put 9 = .ok (.arraylength, 1) := by decide +kernel
theorem dX2_put_10 : decode cX2_put 10 = .ok (.if_icmp .ge 10, 3) := by decide +kernel
theorem dX2_put_13 : decode cX2_put 13 = .ok (.aload_n 0, 1) := by decide +kernel
theorem dX2_put_14 : decode cX2_put 14 = .ok (.getfield 7, 3) := by decide +kernel
theorem dX2_put_17 : decode cX2_put 17 = .ok (.iload_n 1, 1) := by decide +kernel
theorem dX2_put_18 : decode cX2_put 18 = .ok (.iload_n 2, 1) := by decide +kernel
theorem dX2_put_19 : decode cX2_put 19 = .ok (.iastore, 1) := by decide +kernel
theorem dX2_put_20 : decode cX2_put 20 = .ok (.return_, 1) := by decide +kernel
theorem dX2_add_0 : decode cX2_add 0 = .ok (.iload_n 1, 1) := by decide +kernel
theorem dX2_add_1 : decode cX2_add 1 = .ok (.ifCond .lt 22, 3) := by decide +kernel
theorem dX2_add_4 : decode cX2_add 4 = .ok (.iload_n 1, 1) := by decide +kernel
theorem dX2_add_5 : decode cX2_add 5 = .ok (.aload_n 0, 1) := by decide +kernel
theorem dX2_add_6 : decode cX2_add 6 = .ok (.getfield 7, 3) := by decide +kernel
theorem dX2_add_9 : decode cX2_add 9 = .ok (.arraylength, 1) := by decide +kernel
theorem dX2_add_10 : decode cX2_add 10 = .ok (.if_icmp .ge 13, 3) := by decide +kernel
theorem dX2_add_13 : decode cX2_add 13 = .ok (.aload_n 0, 1) := by decide +kernel
theorem dX2_add_14 : decode cX2_add 14 = .ok (.getfield 7, 3) := by decide +kernel
theorem dX2_add_17 : decode cX2_add 17 = .ok (.iload_n 1, 1) := by decide +kernel
theorem dX2_add_18 : decode cX2_add 18 = .ok (.dup2, 1) := by decide +kernel
theorem dX2_add_19 : decode cX2_add 19 = .ok (.iaload, 1) := by decide +kernel
theorem dX2_add_20 : decode cX2_add 20 = .ok (.iload_n 2, 1) := by decide +kernel
theorem dX2_add_21 : decode cX2_add 21 = .ok (.iadd, 1) := by decide +kernel
theorem dX2_add_22 : decode cX2_add 22 = .ok (.iastore, 1) := by decide +kernel
theorem dX2_add_23 : decode cX2_add 23 = .ok (.return_, 1) := by decide +kernel
theorem dX2_takeOver_0 : decode cX2_takeOver 0 = .ok (.aload_n 1, 1) := by decide +kernel
theorem dX2_takeOver_1 : decode cX2_takeOver 1 = .ok (.getfield 7, 3) := by decide +kernel
theorem dX2_takeOver_4 : decode cX2_takeOver 4 = .ok (.iconst 0, 1) := by decide +kernel
theorem dX2_takeOver_5 : decode cX2_takeOver 5 = .ok (.aload_n 0, 1) := by decide +kernel
theorem dX2_takeOver_6 : decode cX2_takeOver 6 = .ok (.getfield 7, 3) := by decide +kernel
theorem dX2_takeOver_9 : decode cX2_takeOver 9 = .ok (.iconst 0, 1) := by decide +kernel
theorem dX2_takeOver_10 : decode cX2_takeOver 10 = .ok (.aload_n 1, 1) := by decide +kernel
theorem dX2_takeOver_11 : decode cX2_takeOver 11 = .ok (.getfield 7, 3) := by decide +kernel
theorem dX2_takeOver_14 : decode cX2_takeOver 14 = .ok (.arraylength, 1) := by decide +kernel
theorem dX2_takeOver_15 : decode cX2_takeOver 15 = .ok (.aload_n 0, 1) := by decide +kernel
theorem dX2_takeOver_16 : decode cX2_takeOver 16 = .ok (.getfield 7, 3) := by decide +kernel
theorem dX2_takeOver_19 : decode cX2_takeOver 19 = .ok (.arraylength, 1) := by decide +kernel
theorem dX2_takeOver_20 : decode cX2_takeOver 20 = .ok (.invokestatic 13, 3) := by decide +kernel
theorem dX2_takeOver_23 : decode cX2_takeOver 23 = .ok (.invokestatic 19, 3) := by decide +kernel
theorem dX2_takeOver_26 : decode cX2_takeOver 26 = .ok (.return_, 1) := by decide +kernel
set_option maxRecDepth 20000 in
theorem ggX3_init_X0_init : GoodIn wsX3_init wsX0_init := goodIn_r _ [22, 23, 2, 3, 24, 17, 18, 25, 26, 27, 28, 29, 30, 31, 32, 33, 34, 35, 75, 53, 54, 55, 56, 57, 58] (by decide +kernel) (by decide +kernel)
set_option maxRecDepth 20000 in
theorem gX3_init_X0_init_n11 : GoodIn wsX3_init (wsX0_init) := ggX3_init_X0_init
set_option maxRecDepth 20000 in
theorem ggX3_init_X4_init : GoodIn wsX3_init wsX4_init := goodIn_r _ [37, 38, 2, 3, 39, 17, 18, 40, 41, 42, 43, 44, 45, 31, 32, 33, 34, 35, 75, 68, 69, 70, 71, 72, 73] (by decide +kernel) (by decide +kernel)
set_option maxRecDepth 20000 in
theorem gX3_init_X4_init_n20 : GoodIn wsX3_init (wsX4_init) := ggX3_init_X4_init
set_option maxRecDepth 20000 in
theorem ggX3_init_X1_init : GoodIn wsX3_init wsX1_init := goodIn_r _ [47, 48, 2, 3, 49, 17, 18, 50, 51, 31, 32, 33, 34, 35, 75, 74] (by decide +kernel) (by decide +kernel)
set_option maxRecDepth 20000 in
theorem gX3_init_X1_init_n27 : GoodIn wsX3_init (wsX1_init) := ggX3_init_X1_init
set_option maxRecDepth 20000 in
theorem ggX3_init_X2_init : GoodIn wsX3_init wsX2_init := goodIn_r _ [32, 33, 2, 3, 34, 35, 75] (by decide +kernel) (by decide +kernel)
set_option maxRecDepth 20000 in
theorem gX3_init_X2_init : GoodIn wsX3_init (wsX2_init) := ggX3_init_X2_init
theorem dX3_init_0 : decode cX3_init 0 = .ok (.aload_n 0, 1) := by decide +kernel
theorem dX3_init_1 : decode cX3_init 1 = .ok (.invokespecial 3, 3) := by decide +kernel
theorem dX3_init_4 : decode cX3_init 4 = .ok (.aload_n 0, 1) := by decide +kernel
theorem dX3_init_5 : decode cX3_init 5 = .ok (.new 9, 3) := by decide +kernel
theorem dX3_init_8 : decode cX3_init 8 = .ok (.dup, 1) := by decide +kernel
theorem dX3_init_9 : decode cX3_init 9 = .ok (.invokespecial 11, 3) := by decide +kernel
theorem dX3_init_12 : decode cX3_init 12 = .ok (.putfield 12, 3) := by decide +kernel
theorem dX3_init_15 : decode cX3_init 15 = .ok (.aload_n 0, 1) := by decide +kernel
theorem dX3_init_16 : decode cX3_init 16 = .ok (.new 18, 3) := by decide +kernel
theorem dX3_init_19 : decode cX3_init 19 = .ok (.dup, 1) := by decide +kernel
theorem dX3_init_20 : decode cX3_init 20 = .ok (.invokespecial 20, 3) := by decide +kernel
theorem dX3_init_23 : decode cX3_init 23 = .ok (.putfield 21, 3) := by decide +kernel
theorem dX3_init_26 : decode cX3_init 26 = .ok (.aload_n 0, 1) := by decide +kernel
theorem dX3_init_27 : decode cX3_init 27 = .ok (.new 25, 3) := by decide +kernel
theorem dX3_init_30 : decode cX3_init 30 = .ok (.dup, 1) := by decide +kernel
theorem dX3_init_31 : decode cX3_init 31 = .ok (.invokespecial 27, 3) := by decide +kernel
theorem dX3_init_34 : decode cX3_init 34 = .ok (.putfield 28, 3) := by decide +kernel
theorem dX3_init_37 : decode cX3_init 37 = .ok (.aload_n 0, 1) := by decide +kernel
theorem dX3_init_38 : decode cX3_init 38 = .ok (.new 32, 3) := by decide +kernel
theorem dX3_init_41 : decode cX3_init 41 = .ok (.dup, 1) := by decide +kernel
theorem dX3_init_42 : decode cX3_init 42 = .ok (.bipush 7, 2) := by decide +kernel
theorem dX3_init_44 : decode cX3_init 44 = .ok (.invokespecial 34, 3) := by decide +kernel
theorem dX3_init_47 : decode cX3_init 47 = .ok (.putfield 37, 3) := by decide +kernel
theorem dX3_init_50 : decode cX3_init 50 = .ok (.aload_n 0, 1) := by decide +kernel
theorem dX3_init_51 : decode cX3_init 51 = .ok (.bipush 50, 2) := by decide +kernel
theorem dX3_init_53 : decode cX3_init 53 = .ok (.putfield 41, 3) := by decide +kernel
theorem dX3_init_56 : decode cX3_init 56 = .ok (.return_, 1) := by decide +kernel
set_option maxRecDepth 20000 in
theorem ggX3_throwCoin_X1_add : GoodIn wsX3_throwCoin wsX1_add := goodIn_ca (goodIn_r _ [9, 10, 11, 12, 8, 13, 14, 15, 16, 17, 18, 19, 50, 51] (by decide +kernel) (by decide +kernel)) (goodIn_sub (fun _ h => List.mem_cons_of_mem _ (List.mem_append_right _ h)) (by decide +kernel))
set_option maxRecDepth 20000 in
theorem gX3_throwCoin_X1_add : GoodIn wsX3_throwCoin (wsV RX3 45 RX1 yX1_add wsX1_add) := goodIn_app (goodIn_of _ (by decide +kernel)) ggX3_throwCoin_X1_add
set_option maxRecDepth 20000 in
theorem ggX3_throwCoin_X2_add : GoodIn wsX3_throwCoin wsX2_add := goodIn_ca (goodIn_r _ [18, 19, 51] (by decide +kernel) (by decide +kernel)) (goodIn_sub (fun _ h => List.mem_cons_of_mem _ (List.mem_append_right _ h)) (by decide +kernel))
set_option maxRecDepth 20000 in
theorem gX3_throwCoin_X2_add : GoodIn wsX3_throwCoin (wsV RX3 52 RX2 yX2_add wsX2_add) := goodIn_app (goodIn_of _ (by decide +kernel)) ggX3_throwCoin_X2_add
set_option maxRecDepth 20000 in
theorem ggX3_throwCoin_X2_at : GoodIn wsX3_throwCoin wsX2_at := goodIn_ca (goodIn_r _ [24, 19, 51] (by decide +kernel) (by decide +kernel)) (goodIn_sub (fun _ h => List.mem_cons_of_mem _ (List.mem_append_right _ h)) (by decide +kernel))
set_option maxRecDepth 20000 in
theorem gX3_throwCoin_X2_at : GoodIn wsX3_throwCoin (wsV RX3 58 RX2 yX2_at wsX2_at) := goodIn_app (goodIn_of _ (by decide +kernel)) ggX3_throwCoin_X2_at
set_option maxRecDepth 20000 in
theorem ggX3_throwCoin_X3_raiseFavour : GoodIn wsX3_throwCoin wsX3_raiseFavour := goodIn_r _ [29, 30, 31, 32, 33, 34, 35, 36, 37, 38, 39, 40, 41, 42, 43] (by decide +kernel) (by decide +kernel)
set_option maxRecDepth 20000 in
theorem gX3_throwCoin_X3_raiseFavour : GoodIn wsX3_throwCoin (wsV RX3 62 RX3 yX3_raiseFavour wsX3_raiseFavour) := goodIn_app (goodIn_of _ (by decide +kernel)) ggX3_throwCoin_X3_raiseFavour
theorem dX3_throwCoin_0 : decode cX3_throwCoin 0 = .ok (.aload_n 0, 1) := by decide +kernel
theorem dX3_throwCoin_1 : decode cX3_throwCoin 1 = .ok (.getfield 28, 3) := by decide +kernel
theorem dX3_throwCoin_4 : decode cX3_throwCoin 4 = .ok (.iconst 0, 1) := by decide +kernel
theorem dX3_throwCoin_5 : decode cX3_throwCoin 5 = .ok (.iload_n 1, 1) := by decide +kernel
theorem dX3_throwCoin_6 : decode cX3_throwCoin 6 = .ok (.iconst 1, 1) := by decide +kernel
theorem dX3_throwCoin_7 : decode cX3_throwCoin 7 = .ok (.invokevirtual 45, 3) := by decide +kernel
theorem dX3_throwCoin_10 : decode cX3_throwCoin 10 = .ok (.aload_n 0, 1) := by decide +kernel
theorem dX3_throwCoin_11 : decode cX3_throwCoin 11 = .ok (.getfield 12, 3) := by decide +kernel
theorem dX3_throwCoin_14 : decode cX3_throwCoin 14 = .ok (.getfield 49, 3) := by decide +kernel
theorem dX3_throwCoin_17 : decode cX3_throwCoin 17 = .ok (.iload_n 1, 1) := by decide +kernel
theorem dX3_throwCoin_18 : decode cX3_throwCoin 18 = .ok (.iconst 1, 1) := by decide +kernel
theorem dX3_throwCoin_19 : decode cX3_throwCoin 19 = .ok (.invokevirtual 52, 3) := by decide +kernel
theorem dX3_throwCoin_22 : decode cX3_throwCoin 22 = .ok (.aload_n 0, 1) := by decide +kernel
theorem dX3_throwCoin_23 : decode cX3_throwCoin 23 = .ok (.aload_n 0, 1) := by decide +kernel
theorem dX3_throwCoin_24 : decode cX3_throwCoin 24 = .ok (.getfield 12, 3) := by decide +kernel
theorem dX3_throwCoin_27 : decode cX3_throwCoin 27 = .ok (.getfield 55, 3) := by decide +kernel
theorem dX3_throwCoin_30 : decode cX3_throwCoin 30 = .ok (.iload_n 1, 1) := by decide +kernel
theorem dX3_throwCoin_31 : decode cX3_throwCoin 31 = .ok (.invokevirtual 58, 3) := by decide +kernel
theorem dX3_throwCoin_34 : decode cX3_throwCoin 34 = .ok (.bipush 10, 2) := by decide +kernel
theorem dX3_throwCoin_36 : decode cX3_throwCoin 36 = .ok (.idiv, 1) := by decide +kernel
theorem dX3_throwCoin_37 : decode cX3_throwCoin 37 = .ok (.invokevirtual 62, 3) := by decide +kernel
theorem dX3_throwCoin_40 : decode cX3_throwCoin 40 = .ok (.return_, 1) := by decide +kernel
theorem dX3_raiseFavour_0 : decode cX3_raiseFavour 0 = .ok (.aload_n 0, 1) := by decide +kernel
theorem dX3_raiseFavour_1 : decode cX3_raiseFavour 1 = .ok (.sipush 500, 3) := by decide +kernel
theorem dX3_raiseFavour_4 : decode cX3_raiseFavour 4 = .ok (.aload_n 0, 1) := by decide +kernel
theorem dX3_raiseFavour_5 : decode cX3_raiseFavour 5 = .ok (.getfield 41, 3) := by decide +kernel
theorem dX3_raiseFavour_8 : decode cX3_raiseFavour 8 = .ok (.iload_n 1, 1) := by decide +kernel
theorem dX3_raiseFavour_9 : decode cX3_raiseFavour 9 = .ok (.iadd, 1) := by decide +kernel
theorem dX3_raiseFavour_10 : decode cX3_raiseFavour 10 = .ok (.invokestatic 65, 3) := by decide +kernel
theorem dX3_raiseFavour_13 : decode cX3_raiseFavour 13 = .ok (.putfield 41, 3) := by decide +kernel
theorem dX3_raiseFavour_16 : decode cX3_raiseFavour 16 = .ok (.return_, 1) := by decide +kernel
set_option maxRecDepth 20000 in
theorem ggX3_withdrawWish_X2_at : GoodIn wsX3_withdrawWish wsX2_at := goodIn_ca (goodIn_r _ [16, 17, 66] (by decide +kernel) (by decide +kernel)) (goodIn_sub (fun _ h => List.mem_cons_of_mem _ (List.mem_append_right _ h)) (by decide +kernel))
set_option maxRecDepth 20000 in
theorem gX3_withdrawWish_X2_at : GoodIn wsX3_withdrawWish (wsV RX3 58 RX2 yX2_at wsX2_at) := goodIn_app (goodIn_of _ (by decide +kernel)) ggX3_withdrawWish_X2_at
set_option maxRecDepth 20000 in
theorem ggX3_withdrawWish_X1_uppermostOf : GoodIn wsX3_withdrawWish wsX1_uppermostOf := goodIn_ca (goodIn_r _ [22, 23, 24, 25, 21, 26, 27, 28, 29, 30, 31, 13, 14, 15, 16, 17, 67, 66] (by decide +kernel) (by decide +kernel)) (goodIn_sub (fun _ h => List.mem_cons_of_mem _ (List.mem_append_right _ h)) (by decide +kernel))
set_option maxRecDepth 20000 in
theorem gX3_withdrawWish_X1_uppermostOf : GoodIn wsX3_withdrawWish (wsV RX3 74 RX1 yX1_uppermostOf wsX1_uppermostOf) := goodIn_app (goodIn_of _ (by decide +kernel)) ggX3_withdrawWish_X1_uppermostOf
set_option maxRecDepth 20000 in
theorem ggX3_withdrawWish_X1_add : GoodIn wsX3_withdrawWish wsX1_add := goodIn_ca (goodIn_r _ [35, 27, 28, 29, 21, 30, 36, 37, 38, 15, 39, 17, 67, 66] (by decide +kernel) (by decide +kernel)) (goodIn_sub (fun _ h => List.mem_cons_of_mem _ (List.mem_append_right _ h)) (by decide +kernel))
set_option maxRecDepth 20000 in
theorem gX3_withdrawWish_X1_add : GoodIn wsX3_withdrawWish (wsV RX3 45 RX1 yX1_add wsX1_add) := goodIn_app (goodIn_of _ (by decide +kernel)) ggX3_withdrawWish_X1_add
set_option maxRecDepth 20000 in
theorem ggX3_withdrawWish_X2_add : GoodIn wsX3_withdrawWish wsX2_add := goodIn_ca (goodIn_r _ [39, 17, 66] (by decide +kernel) (by decide +kernel)) (goodIn_sub (fun _ h => List.mem_cons_of_mem _ (List.mem_append_right _ h)) (by decide +kernel))
set_option maxRecDepth 20000 in
theorem gX3_withdrawWish_X2_add : GoodIn wsX3_withdrawWish (wsV RX3 52 RX2 yX2_add wsX2_add) := goodIn_app (goodIn_of _ (by decide +kernel)) ggX3_withdrawWish_X2_add
set_option maxRecDepth 20000 in
theorem ggX3_withdrawWish_X2_put : GoodIn wsX3_withdrawWish wsX2_put := goodIn_ca (goodIn_r _ [44, 17, 66] (by decide +kernel) (by decide +kernel)) (goodIn_sub (fun _ h => List.mem_cons_of_mem _ (List.mem_append_right _ h)) (by decide +kernel))
set_option maxRecDepth 20000 in
theorem gX3_withdrawWish_X2_put : GoodIn wsX3_withdrawWish (wsV RX3 83 RX2 yX2_put wsX2_put) := goodIn_app (goodIn_of _ (by decide +kernel)) ggX3_withdrawWish_X2_put
theorem dX3_withdrawWish_0 : decode cX3_withdrawWish 0 = .ok (.aload_n 0, 1) := by decide +kernel
theorem dX3_withdrawWish_1 : decode cX3_withdrawWish 1 = .ok (.getfield 21, 3) := by decide +kernel
theorem dX3_withdrawWish_4 : decode cX3_withdrawWish 4 = .ok (.getfield 71, 3) := by decide +kernel
theorem dX3_withdrawWish_7 : decode cX3_withdrawWish 7 = .ok (.iload_n 1, 1) := by decide +kernel
theorem dX3_withdrawWish_8 : decode cX3_withdrawWish 8 = .ok (.invokevirtual 58, 3) := by decide +kernel
theorem dX3_withdrawWish_11 : decode cX3_withdrawWish 11 = .ok (.istore_n 2, 1) := by decide +kernel
theorem dX3_withdrawWish_12 : decode cX3_withdrawWish 12 = .ok (.aload_n 0, 1) := by decide +kernel
theorem dX3_withdrawWish_13 : decode cX3_withdrawWish 13 = .ok (.getfield 28, 3) := by decide +kernel
theorem dX3_withdrawWish_16 : decode cX3_withdrawWish 16 = .ok (.iload_n 2, 1) := by decide +kernel
theorem dX3_withdrawWish_17 : decode cX3_withdrawWish 17 = .ok (.invokevirtual 74, 3) := by decide +kernel
theorem dX3_withdrawWish_20 : decode cX3_withdrawWish 20 = .ok (.istore_n 3, 1) := by decide +kernel
theorem dX3_withdrawWish_21 : decode cX3_withdrawWish 21 = .ok (.iload_n 3, 1) := by decide +kernel
theorem dX3_withdrawWish_22 : decode cX3_withdrawWish 22 = .ok (.iconst (-1), 1) := by decide +kernel
theorem dX3_withdrawWish_23 : decode cX3_withdrawWish 23 = .ok (.if_icmp .eq 25, 3) := by decide +kernel
theorem dX3_withdrawWish_26 : decode cX3_withdrawWish 26 = .ok (.aload_n 0, 1) := by decide +kernel
theorem dX3_withdrawWish_27 : decode cX3_withdrawWish 27 = .ok (.getfield 28, 3) := by decide +kernel
theorem dX3_withdrawWish_30 : decode cX3_withdrawWish 30 = .ok (.iload_n 3, 1) := by decide +kernel
theorem dX3_withdrawWish_31 : decode cX3_withdrawWish 31 = .ok (.iload_n 2, 1) := by decide +kernel
theorem dX3_withdrawWish_32 : decode cX3_withdrawWish 32 = .ok (.iconst (-1), 1) := by decide +kernel
theorem dX3_withdrawWish_33 : decode cX3_withdrawWish 33 = .ok (.invokevirtual 45, 3) := by decide +kernel
theorem dX3_withdrawWish_36 : decode cX3_withdrawWish 36 = .ok (.aload_n 0, 1) := by decide +kernel
theorem dX3_withdrawWish_37 : decode cX3_withdrawWish 37 = .ok (.getfield 12, 3) := by decide +kernel
theorem dX3_withdrawWish_40 : decode cX3_withdrawWish 40 = .ok (.getfield 77, 3) := by decide +kernel
theorem dX3_withdrawWish_43 : decode cX3_withdrawWish 43 = .ok (.iload_n 2, 1) := by decide +kernel
theorem dX3_withdrawWish_44 : decode cX3_withdrawWish 44 = .ok (.iconst 1, 1) := by decide +kernel
theorem dX3_withdrawWish_45 : decode cX3_withdrawWish 45 = .ok (.invokevirtual 52, 3) := by decide +kernel
theorem dX3_withdrawWish_48 : decode cX3_withdrawWish 48 = .ok (.aload_n 0, 1) := by decide +kernel
theorem dX3_withdrawWish_49 : decode cX3_withdrawWish 49 = .ok (.getfield 21, 3) := by decide +kernel
theorem dX3_withdrawWish_52 : decode cX3_withdrawWish 52 = .ok (.getfield 80, 3) := by decide +kernel
theorem dX3_withdrawWish_55 : decode cX3_withdrawWish 55 = .ok (.iload_n 1, 1) := by decide +kernel
theorem dX3_withdrawWish_56 : decode cX3_withdrawWish 56 = .ok (.iconst 2, 1) := by decide +kernel
theorem dX3_withdrawWish_57 : decode cX3_withdrawWish 57 = .ok (.invokevirtual 83, 3) := by decide +kernel
theorem dX3_withdrawWish_60 : decode cX3_withdrawWish 60 = .ok (.aload_n 0, 1) := by decide +kernel
theorem dX3_withdrawWish_61 : decode cX3_withdrawWish 61 = .ok (.iconst 0, 1) := by decide +kernel
theorem dX3_withdrawWish_62 : decode cX3_withdrawWish 62 = .ok (.aload_n 0, 1) := by decide +kernel
theorem dX3_withdrawWish_63 : decode cX3_withdrawWish 63 = .ok (.getfield 41, 3) := by decide +kernel
theorem dX3_withdrawWish_66 : decode cX3_withdrawWish 66 = .ok (.iconst 5, 1) := by decide +kernel
theorem dX3_withdrawWish_67 : decode cX3_withdrawWish 67 = .ok (.isub, 1) := by decide +kernel
theorem dX3_withdrawWish_68 : decode cX3_withdrawWish 68 = .ok (.invokestatic 86, 3) := by decide +kernel
theorem dX3_withdrawWish_71 : decode cX3_withdrawWish 71 = .ok (.putfield 41, 3) := by decide +kernel
theorem dX3_withdrawWish_74 : decode cX3_withdrawWish 74 = .ok (.iload_n 3, 1) := by decide +kernel
theorem dX3_withdrawWish_75 : decode cX3_withdrawWish 75 = .ok (.ireturn, 1) := by decide +kernel
set_option maxRecDepth 20000 in
theorem ggX3_fishCoins_X3_dearestIn : GoodIn wsX3_fishCoins wsX3_dearestIn := goodIn_ca (goodIn_r _ [9, 2, 10, 1, 3, 11, 12, 13, 14, 15, 16, 17, 18, 19, 20, 21, 22, 23, 24, 25, 26, 35, 36, 37, 38, 39, 40, 41, 42, 43, 44, 45, 46, 47, 48, 49, 50, 51] (by decide +kernel) (by decide +kernel)) (goodIn_sub (fun _ h => List.mem_cons_of_mem _ (List.mem_append_right _ h)) (by decide +kernel))
set_option maxRecDepth 20000 in
theorem gX3_fishCoins_X3_dearestIn : GoodIn wsX3_fishCoins (wsV RX3 89 RX3 yX3_dearestIn wsX3_dearestIn) := goodIn_app (goodIn_of _ (by decide +kernel)) ggX3_fishCoins_X3_dearestIn
set_option maxRecDepth 20000 in
theorem ggX3_fishCoins_X1_add : GoodIn wsX3_fishCoins wsX1_add := goodIn_ca (goodIn_r _ [30, 16, 17, 18, 14, 19, 31, 32, 33, 23, 34, 25, 50, 51] (by decide +kernel) (by decide +kernel)) (goodIn_sub (fun _ h => List.mem_cons_of_mem _ (List.mem_append_right _ h)) (by decide +kernel))
set_option maxRecDepth 20000 in
theorem gX3_fishCoins_X1_add : GoodIn wsX3_fishCoins (wsV RX3 45 RX1 yX1_add wsX1_add) := goodIn_app (goodIn_of _ (by decide +kernel)) ggX3_fishCoins_X1_add
set_option maxRecDepth 20000 in
theorem ggX3_fishCoins_X2_at : GoodIn wsX3_fishCoins wsX2_at := goodIn_ca (goodIn_r _ [24, 25, 51] (by decide +kernel) (by decide +kernel)) (goodIn_sub (fun _ h => List.mem_cons_of_mem _ (List.mem_append_right _ h)) (by decide +kernel))
set_option maxRecDepth 20000 in
theorem gX3_fishCoins_X2_at : GoodIn wsX3_fishCoins (wsV RX3 58 RX2 yX2_at wsX2_at) := goodIn_app (goodIn_of _ (by decide +kernel)) ggX3_fishCoins_X2_at
theorem dX3_fishCoins_0 : decode cX3_fishCoins 0 = .ok (.iconst 0, 1) := by decide +kernel
theorem dX3_fishCoins_1 : decode cX3_fishCoins 1 = .ok (.istore_n 3, 1) := by decide +kernel
theorem dX3_fishCoins_2 : decode cX3_fishCoins 2 = .ok (.iconst 0, 1) := by decide +kernel
theorem dX3_fishCoins_3 : decode cX3_fishCoins 3 = .ok (.istore 4, 2) := by decide +kernel
theorem dX3_fishCoins_5 : decode cX3_fishCoins 5 = .ok (.iload 4, 2) := by decide +kernel
theorem dX3_fishCoins_7 : decode cX3_fishCoins 7 = .ok (.iload_n 2, 1) := by decide +kernel
theorem dX3_fishCoins_8 : decode cX3_fishCoins 8 = .ok (.if_icmp .ge 51, 3) := by decide +kernel
theorem dX3_fishCoins_11 : decode cX3_fishCoins 11 = .ok (.aload_n 0, 1) := by decide +kernel
theorem dX3_fishCoins_12 : decode cX3_fishCoins 12 = .ok (.iload_n 1, 1) := by decide +kernel
theorem dX3_fishCoins_13 : decode cX3_fishCoins 13 = .ok (.invokevirtual 89, 3) := by decide +kernel
theorem dX3_fishCoins_16 : decode cX3_fishCoins 16 = .ok (.istore 5, 2) := by decide +kernel
theorem dX3_fishCoins_18 : decode cX3_fishCoins 18 = .ok (.iload 5, 2) := by decide +kernel
theorem dX3_fishCoins_20 : decode cX3_fishCoins 20 = .ok (.iconst (-1), 1) := by decide +kernel
theorem dX3_fishCoins_21 : decode cX3_fishCoins 21 = .ok (.if_icmp .ne 6, 3) := by decide +kernel
theorem dX3_fishCoins_24 : decode cX3_fishCoins 24 = .ok (.goto 35, 3) := by decide +kernel
theorem dX3_fishCoins_27 : decode cX3_fishCoins 27 = .ok (.aload_n 0, 1) := by decide +kernel
theorem dX3_fishCoins_28 : decode cX3_fishCoins 28 = .ok (.getfield 28, 3) := by decide +kernel
theorem dX3_fishCoins_31 : decode cX3_fishCoins 31 = .ok (.iload_n 1, 1) := by decide +kernel
theorem dX3_fishCoins_32 : decode cX3_fishCoins 32 = .ok (.iload 5, 2) := by decide +kernel
theorem dX3_fishCoins_34 : decode cX3_fishCoins 34 = .ok (.iconst (-1), 1) := by decide +kernel
theorem dX3_fishCoins_35 : decode cX3_fishCoins 35 = .ok (.invokevirtual 45, 3) := by decide +kernel
theorem dX3_fishCoins_38 : decode cX3_fishCoins 38 = .ok (.iload_n 3, 1) := by decide +kernel
theorem dX3_fishCoins_39 : decode cX3_fishCoins 39 = .ok (.aload_n 0, 1) := by decide +kernel
theorem dX3_fishCoins_40 : decode cX3_fishCoins 40 = .ok (.getfield 12, 3) := by decide +kernel
theorem dX3_fishCoins_43 : decode cX3_fishCoins 43 = .ok (.getfield 55, 3) := by decide +kernel
theorem dX3_fishCoins_46 : decode cX3_fishCoins 46 = .ok (.iload 5, 2) := by decide +kernel
theorem dX3_fishCoins_48 : decode cX3_fishCoins 48 = .ok (.invokevirtual 58, 3) := by decide +kernel
theorem dX3_fishCoins_51 : decode cX3_fishCoins 51 = .ok (.iadd, 1) := by decide +kernel
theorem dX3_fishCoins_52 : decode cX3_fishCoins 52 = .ok (.istore_n 3, 1) := by decide +kernel
theorem dX3_fishCoins_53 : decode cX3_fishCoins 53 = .ok (.iinc 4 1, 3) := by decide +kernel
theorem dX3_fishCoins_56 : decode cX3_fishCoins 56 = .ok (.goto (-51), 3) := by decide +kernel
theorem dX3_fishCoins_59 : decode cX3_fishCoins 59 = .ok (.aload_n 0, 1) := by decide +kernel
theorem dX3_fishCoins_60 : decode cX3_fishCoins 60 = .ok (.dup, 1) := by decide +kernel
theorem dX3_fishCoins_61 : decode cX3_fishCoins 61 = .ok (.getfield 92, 3) := by decide +kernel
theorem dX3_fishCoins_64 : decode cX3_fishCoins 64 = .ok (.iload_n 3, 1) := by decide +kernel
theorem dX3_fishCoins_65 : decode cX3_fishCoins 65 = .ok (.iadd, 1) := by decide +kernel
theorem dX3_fishCoins_66 : decode cX3_fishCoins 66 = .ok (.putfield 92, 3) := by decide +kernel
theorem dX3_fishCoins_69 : decode cX3_fishCoins 69 = .ok (.iload_n 3, 1) := by decide +kernel
theorem dX3_fishCoins_70 : decode cX3_fishCoins 70 = .ok (.ireturn, 1) := by decide +kernel
set_option maxRecDepth 20000 in
theorem ggX3_dearestIn_X1_at : GoodIn wsX3_dearestIn wsX1_at := goodIn_ca (goodIn_r _ [9, 10, 11, 12, 8, 13, 14, 15, 16, 17, 18, 19, 36, 37] (by decide +kernel) (by decide +kernel)) (goodIn_sub (fun _ h => List.mem_cons_of_mem _ (List.mem_append_right _ h)) (by decide +kernel))
set_option maxRecDepth 20000 in
theorem gX3_dearestIn_X1_at : GoodIn wsX3_dearestIn (wsV RX3 98 RX1 yX1_at wsX1_at) := goodIn_app (goodIn_of _ (by decide +kernel)) ggX3_dearestIn_X1_at
set_option maxRecDepth 20000 in
theorem ggX3_dearestIn_X2_at : GoodIn wsX3_dearestIn wsX2_at := goodIn_ca (goodIn_r _ [18, 19, 37] (by decide +kernel) (by decide +kernel)) (goodIn_sub (fun _ h => List.mem_cons_of_mem _ (List.mem_append_right _ h)) (by decide +kernel))
set_option maxRecDepth 20000 in
theorem gX3_dearestIn_X2_at : GoodIn wsX3_dearestIn (wsV RX3 58 RX2 yX2_at wsX2_at) := goodIn_app (goodIn_of _ (by decide +kernel)) ggX3_dearestIn_X2_at
theorem dX3_dearestIn_0 : decode cX3_dearestIn 0 = .ok (.iconst (-1), 1) := by decide +kernel
theorem dX3_dearestIn_1 : decode cX3_dearestIn 1 = .ok (.istore_n 2, 1) := by decide +kernel
theorem dX3_dearestIn_2 : decode cX3_dearestIn 2 = .ok (.iconst 0, 1) := by decide +kernel
theorem dX3_dearestIn_3 : decode cX3_dearestIn 3 = .ok (.istore_n 3, 1) := by decide +kernel
theorem dX3_dearestIn_4 : decode cX3_dearestIn 4 = .ok (.iconst 0, 1) := by decide +kernel
theorem dX3_dearestIn_5 : decode cX3_dearestIn 5 = .ok (.istore 4, 2) := by decide +kernel
theorem dX3_dearestIn_7 : decode cX3_dearestIn 7 = .ok (.iload 4, 2) := by decide +kernel
theorem dX3_dearestIn_9 : decode cX3_dearestIn 9 = .ok (.aload_n 0, 1) := by decide +kernel
theorem dX3_dearestIn_10 : decode cX3_dearestIn 10 = .ok (.getfield 12, 3) := by decide +kernel
theorem dX3_dearestIn_13 : decode cX3_dearestIn 13 = .ok (.getfield 95, 3) := by decide +kernel
theorem dX3_dearestIn_16 : decode cX3_dearestIn 16 = .ok (.if_icmp .ge 54, 3) := by decide +kernel
theorem dX3_dearestIn_19 : decode cX3_dearestIn 19 = .ok (.aload_n 0, 1) := by decide +kernel
theorem dX3_dearestIn_20 : decode cX3_dearestIn 20 = .ok (.getfield 28, 3) := by decide +kernel
theorem dX3_dearestIn_23 : decode cX3_dearestIn 23 = .ok (.iload_n 1, 1) := by decide +kernel
theorem dX3_dearestIn_24 : decode cX3_dearestIn 24 = .ok (.iload 4, 2) := by decide +kernel
theorem dX3_dearestIn_26 : decode cX3_dearestIn 26 = .ok (.invokevirtual 98, 3) := by decide +kernel
theorem dX3_dearestIn_29 : decode cX3_dearestIn 29 = .ok (.ifCond .le 35, 3) := by decide +kernel
theorem dX3_dearestIn_32 : decode cX3_dearestIn 32 = .ok (.aload_n 0, 1) := by decide +kernel
theorem dX3_dearestIn_33 : decode cX3_dearestIn 33 = .ok (.getfield 12, 3) := by decide +kernel
theorem dX3_dearestIn_36 : decode cX3_dearestIn 36 = .ok (.getfield 55, 3) := by decide +kernel
theorem dX3_dearestIn_39 : decode cX3_dearestIn 39 = .ok (.iload 4, 2) := by decide +kernel
theorem dX3_dearestIn_41 : decode cX3_dearestIn 41 = .ok (.invokevirtual 58, 3) := by decide +kernel
theorem dX3_dearestIn_44 : decode cX3_dearestIn 44 = .ok (.iload_n 3, 1) := by decide +kernel
theorem dX3_dearestIn_45 : decode cX3_dearestIn 45 = .ok (.if_icmp .le 19, 3) := by decide +kernel
theorem dX3_dearestIn_48 : decode cX3_dearestIn 48 = .ok (.iload 4, 2) := by decide +kernel
theorem dX3_dearestIn_50 : decode cX3_dearestIn 50 = .ok (.istore_n 2, 1) := by decide +kernel
theorem dX3_dearestIn_51 : decode cX3_dearestIn 51 = .ok (.aload_n 0, 1) := by decide +kernel
theorem dX3_dearestIn_52 : decode cX3_dearestIn 52 = .ok (.getfield 12, 3) := by decide +kernel
theorem dX3_dearestIn_55 : decode cX3_dearestIn 55 = .ok (.getfield 55, 3) := by decide +kernel
theorem dX3_dearestIn_58 : decode cX3_dearestIn 58 = .ok (.iload 4, 2) := by decide +kernel
theorem dX3_dearestIn_60 : decode cX3_dearestIn 60 = .ok (.invokevirtual 58, 3) := by decide +kernel
theorem dX3_dearestIn_63 : decode cX3_dearestIn 63 = .ok (.istore_n 3, 1) := by decide +kernel
theorem dX3_dearestIn_64 : decode cX3_dearestIn 64 = .ok (.iinc 4 1, 3) := by decide +kernel
theorem dX3_dearestIn_67 : decode cX3_dearestIn 67 = .ok (.goto (-60), 3) := by decide +kernel
theorem dX3_dearestIn_70 : decode cX3_dearestIn 70 = .ok (.iload_n 2, 1) := by decide +kernel
theorem dX3_dearestIn_71 : decode cX3_dearestIn 71 = .ok (.ireturn, 1) := by decide +kernel
set_option maxRecDepth 20000 in
theorem ggX3_auditLayer_X1_coinsIn : GoodIn wsX3_auditLayer wsX1_coinsIn := goodIn_ca (goodIn_r _ [10, 11, 12, 13, 9, 14, 15, 16, 17, 18, 19, 20, 21, 22, 23, 24, 57, 58] (by decide +kernel) (by decide +kernel)) (goodIn_sub (fun _ h => List.mem_cons_of_mem _ (List.mem_append_right _ h)) (by decide +kernel))
set_option maxRecDepth 20000 in
theorem gX3_auditLayer_X1_coinsIn : GoodIn wsX3_auditLayer (wsV RX3 100 RX1 yX1_coinsIn wsX1_coinsIn) := goodIn_app (goodIn_of _ (by decide +kernel)) ggX3_auditLayer_X1_coinsIn
set_option maxRecDepth 20000 in
theorem ggX3_auditLayer_X3_valueIn : GoodIn wsX3_auditLayer wsX3_valueIn := goodIn_ca (goodIn_r _ [29, 3, 4, 1, 30, 31, 12, 13, 9, 14, 15, 16, 17, 18, 19, 20, 21, 22, 23, 24, 32, 42, 43, 44, 45, 46, 47, 48, 49, 50, 51, 52, 53, 54, 55, 56, 57, 58] (by decide +kernel) (by decide +kernel)) (goodIn_sub (fun _ h => List.mem_cons_of_mem _ (List.mem_append_right _ h)) (by decide +kernel))
set_option maxRecDepth 20000 in
theorem gX3_auditLayer_X3_valueIn : GoodIn wsX3_auditLayer (wsV RX3 106 RX3 yX3_valueIn wsX3_valueIn) := goodIn_app (goodIn_of _ (by decide +kernel)) ggX3_auditLayer_X3_valueIn
set_option maxRecDepth 20000 in
theorem ggX3_auditLayer_X1_at : GoodIn wsX3_auditLayer wsX1_at := goodIn_ca (goodIn_r _ [14, 15, 16, 17, 9, 18, 19, 20, 21, 22, 23, 24, 57, 58] (by decide +kernel) (by decide +kernel)) (goodIn_sub (fun _ h => List.mem_cons_of_mem _ (List.mem_append_right _ h)) (by decide +kernel))
set_option maxRecDepth 20000 in
theorem gX3_auditLayer_X1_at : GoodIn wsX3_auditLayer (wsV RX3 98 RX1 yX1_at wsX1_at) := goodIn_app (goodIn_of _ (by decide +kernel)) ggX3_auditLayer_X1_at
set_option maxRecDepth 20000 in
theorem ggX3_auditLayer_X1_add : GoodIn wsX3_auditLayer wsX1_add := goodIn_ca (goodIn_r _ [36, 15, 16, 17, 9, 18, 37, 38, 39, 22, 40, 24, 57, 58] (by decide +kernel) (by decide +kernel)) (goodIn_sub (fun _ h => List.mem_cons_of_mem _ (List.mem_append_right _ h)) (by decide +kernel))
set_option maxRecDepth 20000 in
theorem gX3_auditLayer_X1_add : GoodIn wsX3_auditLayer (wsV RX3 45 RX1 yX1_add wsX1_add) := goodIn_app (goodIn_of _ (by decide +kernel)) ggX3_auditLayer_X1_add
set_option maxRecDepth 20000 in
theorem ggX3_auditLayer_X2_add : GoodIn wsX3_auditLayer wsX2_add := goodIn_ca (goodIn_r _ [40, 24, 58] (by decide +kernel) (by decide +kernel)) (goodIn_sub (fun _ h => List.mem_cons_of_mem _ (List.mem_append_right _ h)) (by decide +kernel))
set_option maxRecDepth 20000 in
theorem gX3_auditLayer_X2_add : GoodIn wsX3_auditLayer (wsV RX3 52 RX2 yX2_add wsX2_add) := goodIn_app (goodIn_of _ (by decide +kernel)) ggX3_auditLayer_X2_add
theorem dX3_auditLayer_0 : decode cX3_auditLayer 0 = .ok (.aload_n 0, 1) := by decide +kernel
theorem dX3_auditLayer_1 : decode cX3_auditLayer 1 = .ok (.getfield 28, 3) := by decide +kernel
theorem dX3_auditLayer_4 : decode cX3_auditLayer 4 = .ok (.iload_n 1, 1) := by decide +kernel
theorem dX3_auditLayer_5 : decode cX3_auditLayer 5 = .ok (.invokevirtual 100, 3) := by decide +kernel
theorem dX3_auditLayer_8 : decode cX3_auditLayer 8 = .ok (.istore_n 2, 1) := by decide +kernel
theorem dX3_auditLayer_9 : decode cX3_auditLayer 9 = .ok (.aload_n 0, 1) := by decide +kernel
theorem dX3_auditLayer_10 : decode cX3_auditLayer 10 = .ok (.dup, 1) := by decide +kernel
theorem dX3_auditLayer_11 : decode cX3_auditLayer 11 = .ok (.getfield 103, 3) := by decide +kernel
theorem dX3_auditLayer_14 : decode cX3_auditLayer 14 = .ok (.aload_n 0, 1) := by decide +kernel
theorem dX3_auditLayer_15 : decode cX3_auditLayer 15 = .ok (.iload_n 1, 1) := by decide +kernel
theorem dX3_auditLayer_16 : decode cX3_auditLayer 16 = .ok (.invokevirtual 106, 3) := by decide +kernel
theorem dX3_auditLayer_19 : decode cX3_auditLayer 19 = .ok (.iadd, 1) := by decide +kernel
theorem dX3_auditLayer_20 : decode cX3_auditLayer 20 = .ok (.putfield 103, 3) := by decide +kernel
theorem dX3_auditLayer_23 : decode cX3_auditLayer 23 = .ok (.iconst 0, 1) := by decide +kernel
theorem dX3_auditLayer_24 : decode cX3_auditLayer 24 = .ok (.istore_n 3, 1) := by decide +kernel
theorem dX3_auditLayer_25 : decode cX3_auditLayer 25 = .ok (.iload_n 3, 1) := by decide +kernel
theorem dX3_auditLayer_26 : decode cX3_auditLayer 26 = .ok (.aload_n 0, 1) := by decide +kernel
theorem dX3_auditLayer_27 : decode cX3_auditLayer 27 = .ok (.getfield 12, 3) := by decide +kernel
theorem dX3_auditLayer_30 : decode cX3_auditLayer 30 = .ok (.getfield 95, 3) := by decide +kernel
theorem dX3_auditLayer_33 : decode cX3_auditLayer 33 = .ok (.if_icmp .ge 45, 3) := by decide +kernel
theorem dX3_auditLayer_36 : decode cX3_auditLayer 36 = .ok (.aload_n 0, 1) := by decide +kernel
theorem dX3_auditLayer_37 : decode cX3_auditLayer 37 = .ok (.getfield 28, 3) := by decide +kernel
theorem dX3_auditLayer_40 : decode cX3_auditLayer 40 = .ok (.iload_n 1, 1) := by decide +kernel
theorem dX3_auditLayer_41 : decode cX3_auditLayer 41 = .ok (.iload_n 3, 1) := by decide +kernel
theorem dX3_auditLayer_42 : decode cX3_auditLayer 42 = .ok (.invokevirtual 98, 3) := by decide +kernel
theorem dX3_auditLayer_45 : decode cX3_auditLayer 45 = .ok (.istore 4, 2) := by decide +kernel
theorem dX3_auditLayer_47 : decode cX3_auditLayer 47 = .ok (.aload_n 0, 1) := by decide +kernel
theorem dX3_auditLayer_48 : decode cX3_auditLayer 48 = .ok (.getfield 28, 3) := by decide +kernel
theorem dX3_auditLayer_51 : decode cX3_auditLayer 51 = .ok (.iload_n 1, 1) := by decide +kernel
theorem dX3_auditLayer_52 : decode cX3_auditLayer 52 = .ok (.iload_n 3, 1) := by decide +kernel
theorem dX3_auditLayer_53 : decode cX3_auditLayer 53 = .ok (.iload 4, 2) := by decide +kernel
theorem dX3_auditLayer_55 : decode cX3_auditLayer 55 = .ok (.ineg, 1) := by decide +kernel
theorem dX3_auditLayer_56 : decode cX3_auditLayer 56 = .ok (.invokevirtual 45, 3) := by decide +kernel
theorem dX3_auditLayer_59 : decode cX3_auditLayer 59 = .ok (.aload_n 0, 1) := by decide +kernel
theorem dX3_auditLayer_60 : decode cX3_auditLayer 60 = .ok (.getfield 12, 3) := by decide +kernel
theorem dX3_auditLayer_63 : decode cX3_auditLayer 63 = .ok (.getfield 109, 3) := by decide +kernel
theorem dX3_auditLayer_66 : decode cX3_auditLayer 66 = .ok (.iload_n 3, 1) := by decide +kernel
theorem dX3_auditLayer_67 : decode cX3_auditLayer 67 = .ok (.iload 4, 2) := by decide +kernel
theorem dX3_auditLayer_69 : decode cX3_auditLayer 69 = .ok (.invokevirtual 52, 3) := by decide +kernel
theorem dX3_auditLayer_72 : decode cX3_auditLayer 72 = .ok (.iinc 3 1, 3) := by decide +kernel
theorem dX3_auditLayer_75 : decode cX3_auditLayer 75 = .ok (.goto (-50), 3) := by decide +kernel
theorem dX3_auditLayer_78 : decode cX3_auditLayer 78 = .ok (.iload_n 2, 1) := by decide +kernel
theorem dX3_auditLayer_79 : decode cX3_auditLayer 79 = .ok (.ireturn, 1) := by decide +kernel
set_option maxRecDepth 20000 in
theorem ggX3_missingCoins_X2_at : GoodIn wsX3_missingCoins wsX2_at := goodIn_ca (goodIn_r _ [10, 11, 41] (by decide +kernel) (by decide +kernel)) (goodIn_sub (fun _ h => List.mem_cons_of_mem _ (List.mem_append_right _ h)) (by decide +kernel))
set_option maxRecDepth 20000 in
theorem gX3_missingCoins_X2_at : GoodIn wsX3_missingCoins (wsV RX3 58 RX2 yX2_at wsX2_at) := goodIn_app (goodIn_of _ (by decide +kernel)) ggX3_missingCoins_X2_at
set_option maxRecDepth 20000 in
theorem ggX3_missingCoins_X1_coinsOf : GoodIn wsX3_missingCoins wsX1_coinsOf := goodIn_ca (goodIn_r _ [16, 17, 18, 19, 15, 20, 21, 22, 23, 24, 25, 7, 8, 9, 10, 11, 42, 41] (by decide +kernel) (by decide +kernel)) (goodIn_sub (fun _ h => List.mem_cons_of_mem _ (List.mem_append_right _ h)) (by decide +kernel))
set_option maxRecDepth 20000 in
theorem gX3_missingCoins_X1_coinsOf : GoodIn wsX3_missingCoins (wsV RX3 112 RX1 yX1_coinsOf wsX1_coinsOf) := goodIn_app (goodIn_of _ (by decide +kernel)) ggX3_missingCoins_X1_coinsOf
theorem dX3_missingCoins_0 : decode cX3_missingCoins 0 = .ok (.aload_n 0, 1) := by decide +kernel
theorem dX3_missingCoins_1 : decode cX3_missingCoins 1 = .ok (.getfield 12, 3) := by decide +kernel
theorem dX3_missingCoins_4 : decode cX3_missingCoins 4 = .ok (.getfield 49, 3) := by decide +kernel
theorem dX3_missingCoins_7 : decode cX3_missingCoins 7 = .ok (.iload_n 1, 1) := by decide +kernel
theorem dX3_missingCoins_8 : decode cX3_missingCoins 8 = .ok (.invokevirtual 58, 3) := by decide +kernel
theorem dX3_missingCoins_11 : decode cX3_missingCoins 11 = .ok (.aload_n 0, 1) := by decide +kernel
theorem dX3_missingCoins_12 : decode cX3_missingCoins 12 = .ok (.getfield 28, 3) := by decide +kernel
theorem dX3_missingCoins_15 : decode cX3_missingCoins 15 = .ok (.iload_n 1, 1) := by decide +kernel
theorem dX3_missingCoins_16 : decode cX3_missingCoins 16 = .ok (.invokevirtual 112, 3) := by decide +kernel
theorem dX3_missingCoins_19 : decode cX3_missingCoins 19 = .ok (.isub, 1) := by decide +kernel
theorem dX3_missingCoins_20 : decode cX3_missingCoins 20 = .ok (.aload_n 0, 1) := by decide +kernel
theorem dX3_missingCoins_21 : decode cX3_missingCoins 21 = .ok (.getfield 12, 3) := by decide +kernel
theorem dX3_missingCoins_24 : decode cX3_missingCoins 24 = .ok (.getfield 109, 3) := by decide +kernel
theorem dX3_missingCoins_27 : decode cX3_missingCoins 27 = .ok (.iload_n 1, 1) := by decide +kernel
theorem dX3_missingCoins_28 : decode cX3_missingCoins 28 = .ok (.invokevirtual 58, 3) := by decide +kernel
theorem dX3_missingCoins_31 : decode cX3_missingCoins 31 = .ok (.isub, 1) := by decide +kernel
theorem dX3_missingCoins_32 : decode cX3_missingCoins 32 = .ok (.aload_n 0, 1) := by decide +kernel
theorem dX3_missingCoins_33 : decode cX3_missingCoins 33 = .ok (.getfield 12, 3) := by decide +kernel
theorem dX3_missingCoins_36 : decode cX3_missingCoins 36 = .ok (.getfield 77, 3) := by decide +kernel
theorem dX3_missingCoins_39 : decode cX3_missingCoins 39 = .ok (.iload_n 1, 1) := by decide +kernel
theorem dX3_missingCoins_40 : decode cX3_missingCoins 40 = .ok (.invokevirtual 58, 3) := by decide +kernel
theorem dX3_missingCoins_43 : decode cX3_missingCoins 43 = .ok (.isub, 1) := by decide +kernel
theorem dX3_missingCoins_44 : decode cX3_missingCoins 44 = .ok (.ireturn, 1) := by decide +kernel
set_option maxRecDepth 20000 in
theorem ggX3_valueIn_X1_at : GoodIn wsX3_valueIn wsX1_at := goodIn_ca (goodIn_r _ [9, 10, 11, 12, 8, 13, 14, 15, 16, 17, 18, 19, 36, 37] (by decide +kernel) (by decide +kernel)) (goodIn_sub (fun _ h => List.mem_cons_of_mem _ (List.mem_append_right _ h)) (by decide +kernel))
set_option maxRecDepth 20000 in
theorem gX3_valueIn_X1_at : GoodIn wsX3_valueIn (wsV RX3 98 RX1 yX1_at wsX1_at) := goodIn_app (goodIn_of _ (by decide +kernel)) ggX3_valueIn_X1_at
set_option maxRecDepth 20000 in
theorem ggX3_valueIn_X2_at : GoodIn wsX3_valueIn wsX2_at := goodIn_ca (goodIn_r _ [18, 19, 37] (by decide +kernel) (by decide +kernel)) (goodIn_sub (fun _ h => List.mem_cons_of_mem _ (List.mem_append_right _ h)) (by decide +kernel))
set_option maxRecDepth 20000 in
theorem gX3_valueIn_X2_at : GoodIn wsX3_valueIn (wsV RX3 58 RX2 yX2_at wsX2_at) := goodIn_app (goodIn_of _ (by decide +kernel)) ggX3_valueIn_X2_at
theorem dX3_valueIn_0 : decode cX3_valueIn 0 = .ok (.iconst 0, 1) := by decide +kernel
theorem dX3_valueIn_1 : decode cX3_valueIn 1 = .ok (.istore_n 2, 1) := by decide +kernel
theorem dX3_valueIn_2 : decode cX3_valueIn 2 = .ok (.iconst 0, 1) := by decide +kernel
theorem dX3_valueIn_3 : decode cX3_valueIn 3 = .ok (.istore_n 3, 1) := by decide +kernel
theorem dX3_valueIn_4 : decode cX3_valueIn 4 = .ok (.iload_n 3, 1) := by decide +kernel
theorem dX3_valueIn_5 : decode cX3_valueIn 5 = .ok (.aload_n 0, 1) := by decide +kernel
theorem dX3_valueIn_6 : decode cX3_valueIn 6 = .ok (.getfield 12, 3) := by decide +kernel
theorem dX3_valueIn_9 : decode cX3_valueIn 9 = .ok (.getfield 95, 3) := by decide +kernel
theorem dX3_valueIn_12 : decode cX3_valueIn 12 = .ok (.if_icmp .ge 33, 3) := by decide +kernel
theorem dX3_valueIn_15 : decode cX3_valueIn 15 = .ok (.iload_n 2, 1) := by decide +kernel
theorem dX3_valueIn_16 : decode cX3_valueIn 16 = .ok (.aload_n 0, 1) := by decide +kernel
theorem dX3_valueIn_17 : decode cX3_valueIn 17 = .ok (.getfield 28, 3) := by decide +kernel
theorem dX3_valueIn_20 : decode cX3_valueIn 20 = .ok (.iload_n 1, 1) := by decide +kernel
theorem dX3_valueIn_21 : decode cX3_valueIn 21 = .ok (.iload_n 3, 1) := by decide +kernel
theorem dX3_valueIn_22 : decode cX3_valueIn 22 = .ok (.invokevirtual 98, 3) := by decide +kernel
theorem dX3_valueIn_25 : decode cX3_valueIn 25 = .ok (.aload_n 0, 1) := by decide +kernel
theorem dX3_valueIn_26 : decode cX3_valueIn 26 = .ok (.getfield 12, 3) := by decide +kernel
theorem dX3_valueIn_29 : decode cX3_valueIn 29 = .ok (.getfield 55, 3) := by decide +kernel
theorem dX3_valueIn_32 : decode cX3_valueIn 32 = .ok (.iload_n 3, 1) := by decide +kernel
theorem dX3_valueIn_33 : decode cX3_valueIn 33 = .ok (.invokevirtual 58, 3) := by decide +kernel
theorem dX3_valueIn_36 : decode cX3_valueIn 36 = .ok (.imul, 1) := by decide +kernel
theorem dX3_valueIn_37 : decode cX3_valueIn 37 = .ok (.iadd, 1) := by decide +kernel
theorem dX3_valueIn_38 : decode cX3_valueIn 38 = .ok (.istore_n 2, 1) := by decide +kernel
theorem dX3_valueIn_39 : decode cX3_valueIn 39 = .ok (.iinc 3 1, 3) := by decide +kernel
theorem dX3_valueIn_42 : decode cX3_valueIn 42 = .ok (.goto (-38), 3) := by decide +kernel
theorem dX3_valueIn_45 : decode cX3_valueIn 45 = .ok (.iload_n 2, 1) := by decide +kernel
theorem dX3_valueIn_46 : decode cX3_valueIn 46 = .ok (.ireturn, 1) := by decide +kernel
set_option maxRecDepth 20000 in
theorem ggX3_valueOfAll_X3_valueIn : GoodIn wsX3_valueOfAll wsX3_valueIn := goodIn_ca (goodIn_r _ [5, 6, 7, 8, 9, 10, 11, 12, 13, 14, 15, 16, 17, 18, 19, 20, 21, 22, 23, 24, 25, 26, 27, 28, 29, 30, 31, 32, 33, 34, 35, 36, 37, 38, 39, 40, 41, 42] (by decide +kernel) (by decide +kernel)) (goodIn_sub (fun _ h => List.mem_cons_of_mem _ (List.mem_append_right _ h)) (by decide +kernel))
set_option maxRecDepth 20000 in
theorem gX3_valueOfAll_X3_valueIn : GoodIn wsX3_valueOfAll (wsV RX3 106 RX3 yX3_valueIn wsX3_valueIn) := goodIn_app (goodIn_of _ (by decide +kernel)) ggX3_valueOfAll_X3_valueIn
theorem dX3_valueOfAll_0 : decode cX3_valueOfAll 0 = .ok (.iconst 0, 1) := by decide +kernel
theorem dX3_valueOfAll_1 : decode cX3_valueOfAll 1 = .ok (.istore_n 1, 1) := by decide +kernel
theorem dX3_valueOfAll_2 : decode cX3_valueOfAll 2 = .ok (.iconst 0, 1) := by decide +kernel
theorem dX3_valueOfAll_3 : decode cX3_valueOfAll 3 = .ok (.istore_n 2, 1) := by decide +kernel
theorem dX3_valueOfAll_4 : decode cX3_valueOfAll 4 = .ok (.iload_n 2, 1) := by decide +kernel
theorem dX3_valueOfAll_5 : decode cX3_valueOfAll 5 = .ok (.iconst 5, 1) := by decide +kernel
theorem dX3_valueOfAll_6 : decode cX3_valueOfAll 6 = .ok (.if_icmp .ge 17, 3) := by decide +kernel
theorem dX3_valueOfAll_9 : decode cX3_valueOfAll 9 = .ok (.iload_n 1, 1) := by decide +kernel
theorem dX3_valueOfAll_10 : decode cX3_valueOfAll 10 = .ok (.aload_n 0, 1) := by decide +kernel
theorem dX3_valueOfAll_11 : decode cX3_valueOfAll 11 = .ok (.iload_n 2, 1) := by decide +kernel
theorem dX3_valueOfAll_12 : decode cX3_valueOfAll 12 = .ok (.invokevirtual 106, 3) := by decide +kernel
theorem dX3_valueOfAll_15 : decode cX3_valueOfAll 15 = .ok (.iadd, 1) := by decide +kernel
theorem dX3_valueOfAll_16 : decode cX3_valueOfAll 16 = .ok (.istore_n 1, 1) := by decide +kernel
theorem dX3_valueOfAll_17 : decode cX3_valueOfAll 17 = .ok (.iinc 2 1, 3) := by decide +kernel
theorem dX3_valueOfAll_20 : decode cX3_valueOfAll 20 = .ok (.goto (-16), 3) := by decide +kernel
theorem dX3_valueOfAll_23 : decode cX3_valueOfAll 23 = .ok (.iload_n 1, 1) := by decide +kernel
theorem dX3_valueOfAll_24 : decode cX3_valueOfAll 24 = .ok (.ireturn, 1) := by decide +kernel
set_option maxRecDepth 20000 in
theorem ggX3_coinsInAll_X1_coinsIn : GoodIn wsX3_coinsInAll wsX1_coinsIn := goodIn_ca (goodIn_r _ [6, 7, 8, 9, 5, 10, 11, 12, 13, 14, 15, 16, 17, 18, 19, 20, 30, 31] (by decide +kernel) (by decide +kernel)) (goodIn_sub (fun _ h => List.mem_cons_of_mem _ (List.mem_append_right _ h)) (by decide +kernel))
set_option maxRecDepth 20000 in
theorem gX3_coinsInAll_X1_coinsIn : GoodIn wsX3_coinsInAll (wsV RX3 100 RX1 yX1_coinsIn wsX1_coinsIn) := goodIn_app (goodIn_of _ (by decide +kernel)) ggX3_coinsInAll_X1_coinsIn
theorem dX3_coinsInAll_0 : decode cX3_coinsInAll 0 = .ok (.iconst 0, 1) := by decide +kernel
theorem dX3_coinsInAll_1 : decode cX3_coinsInAll 1 = .ok (.istore_n 1, 1) := by decide +kernel
theorem dX3_coinsInAll_2 : decode cX3_coinsInAll 2 = .ok (.iconst 0, 1) := by decide +kernel
theorem dX3_coinsInAll_3 : decode cX3_coinsInAll 3 = .ok (.istore_n 2, 1) := by decide +kernel
theorem dX3_coinsInAll_4 : decode cX3_coinsInAll 4 = .ok (.iload_n 2, 1) := by decide +kernel
theorem dX3_coinsInAll_5 : decode cX3_coinsInAll 5 = .ok (.iconst 5, 1) := by decide +kernel
theorem dX3_coinsInAll_6 : decode cX3_coinsInAll 6 = .ok (.if_icmp .ge 20, 3) := by decide +kernel
theorem dX3_coinsInAll_9 : decode cX3_coinsInAll 9 = .ok (.iload_n 1, 1) := by decide +kernel
theorem dX3_coinsInAll_10 : decode cX3_coinsInAll 10 = .ok (.aload_n 0, 1) := by decide +kernel
theorem dX3_coinsInAll_11 : decode cX3_coinsInAll 11 = .ok (.getfield 28, 3) := by decide +kernel
theorem dX3_coinsInAll_14 : decode cX3_coinsInAll 14 = .ok (.iload_n 2, 1) := by decide +kernel
theorem dX3_coinsInAll_15 : decode cX3_coinsInAll 15 = .ok (.invokevirtual 100, 3) := by decide +kernel
theorem dX3_coinsInAll_18 : decode cX3_coinsInAll 18 = .ok (.iadd, 1) := by decide +kernel
theorem dX3_coinsInAll_19 : decode cX3_coinsInAll 19 = .ok (.istore_n 1, 1) := by decide +kernel
theorem dX3_coinsInAll_20 : decode cX3_coinsInAll 20 = .ok (.iinc 2 1, 3) := by decide +kernel
theorem dX3_coinsInAll_23 : decode cX3_coinsInAll 23 = .ok (.goto (-19), 3) := by decide +kernel
theorem dX3_coinsInAll_26 : decode cX3_coinsInAll 26 = .ok (.iload_n 1, 1) := by decide +kernel
theorem dX3_coinsInAll_27 : decode cX3_coinsInAll 27 = .ok (.ireturn, 1) := by decide +kernel
set_option maxRecDepth 20000 in
theorem ggX3_landFigure_X2_at : GoodIn wsX3_landFigure wsX2_at := goodIn_ca (goodIn_r _ [11, 12, 42] (by decide +kernel) (by decide +kernel)) (goodIn_sub (fun _ h => List.mem_cons_of_mem _ (List.mem_append_right _ h)) (by decide +kernel))
set_option maxRecDepth 20000 in
theorem gX3_landFigure_X2_at : GoodIn wsX3_landFigure (wsV RX3 58 RX2 yX2_at wsX2_at) := goodIn_app (goodIn_of _ (by decide +kernel)) ggX3_landFigure_X2_at
set_option maxRecDepth 20000 in
theorem ggX3_landFigure_X1_coinsOf : GoodIn wsX3_landFigure wsX1_coinsOf := goodIn_ca (goodIn_r _ [17, 18, 19, 20, 16, 21, 22, 23, 24, 25, 26, 8, 9, 10, 11, 12, 43, 42] (by decide +kernel) (by decide +kernel)) (goodIn_sub (fun _ h => List.mem_cons_of_mem _ (List.mem_append_right _ h)) (by decide +kernel))
set_option maxRecDepth 20000 in
theorem gX3_landFigure_X1_coinsOf : GoodIn wsX3_landFigure (wsV RX3 112 RX1 yX1_coinsOf wsX1_coinsOf) := goodIn_app (goodIn_of _ (by decide +kernel)) ggX3_landFigure_X1_coinsOf
theorem dX3_landFigure_0 : decode cX3_landFigure 0 = .ok (.iload_n 2, 1) := by decide +kernel
theorem dX3_landFigure_1 : decode cX3_landFigure 1 = .ok (.tableswitch 76 0 3 #[31, 43, 55, 67], 31) := by decide +kernel
theorem dX3_landFigure_32 : decode cX3_landFigure 32 = .ok (.aload_n 0, 1) := by decide +kernel
theorem dX3_landFigure_33 : decode cX3_landFigure 33 = .ok (.getfield 12, 3) := by decide +kernel
theorem dX3_landFigure_36 : decode cX3_landFigure 36 = .ok (.getfield 55, 3) := by decide +kernel
theorem dX3_landFigure_39 : decode cX3_landFigure 39 = .ok (.iload_n 1, 1) := by decide +kernel
theorem dX3_landFigure_40 : decode cX3_landFigure 40 = .ok (.invokevirtual 58, 3) := by decide +kernel
theorem dX3_landFigure_43 : decode cX3_landFigure 43 = .ok (.ireturn, 1) := by decide +kernel
theorem dX3_landFigure_44 : decode cX3_landFigure 44 = .ok (.aload_n 0, 1) := by decide +kernel
theorem dX3_landFigure_45 : decode cX3_landFigure 45 = .ok (.getfield 12, 3) := by decide +kernel
theorem dX3_landFigure_48 : decode cX3_landFigure 48 = .ok (.getfield 115, 3) := by decide +kernel
theorem dX3_landFigure_51 : decode cX3_landFigure 51 = .ok (.iload_n 1, 1) := by decide +kernel
theorem dX3_landFigure_52 : decode cX3_landFigure 52 = .ok (.invokevirtual 58, 3) := by decide +kernel
theorem dX3_landFigure_55 : decode cX3_landFigure 55 = .ok (.ireturn, 1) := by decide +kernel
theorem dX3_landFigure_56 : decode cX3_landFigure 56 = .ok (.aload_n 0, 1) := by decide +kernel
theorem dX3_landFigure_57 : decode cX3_landFigure 57 = .ok (.getfield 12, 3) := by decide +kernel
theorem dX3_landFigure_60 : decode cX3_landFigure 60 = .ok (.getfield 49, 3) := by decide +kernel
theorem dX3_landFigure_63 : decode cX3_landFigure 63 = .ok (.iload_n 1, 1) := by decide +kernel
theorem dX3_landFigure_64 : decode cX3_landFigure 64 = .ok (.invokevirtual 58, 3) := by decide +kernel
theorem dX3_landFigure_67 : decode cX3_landFigure 67 = .ok (.ireturn, 1) := by decide +kernel
theorem dX3_landFigure_68 : decode cX3_landFigure 68 = .ok (.aload_n 0, 1) := by decide +kernel
theorem dX3_landFigure_69 : decode cX3_landFigure 69 = .ok (.getfield 28, 3) := by decide +kernel
theorem dX3_landFigure_72 : decode cX3_landFigure 72 = .ok (.iload_n 1, 1) := by decide +kernel
theorem dX3_landFigure_73 : decode cX3_landFigure 73 = .ok (.invokevirtual 112, 3) := by decide +kernel
theorem dX3_landFigure_76 : decode cX3_landFigure 76 = .ok (.ireturn, 1) := by decide +kernel
theorem dX3_landFigure_77 : decode cX3_landFigure 77 = .ok (.aload_n 0, 1) := by decide +kernel
theorem dX3_landFigure_78 : decode cX3_landFigure 78 = .ok (.getfield 12, 3) := by decide +kernel
theorem dX3_landFigure_81 : decode cX3_landFigure 81 = .ok (.getfield 109, 3) := by decide +kernel
theorem dX3_landFigure_84 : decode cX3_landFigure 84 = .ok (.iload_n 1, 1) := by decide +kernel
theorem dX3_landFigure_85 : decode cX3_landFigure 85 = .ok (.invokevirtual 58, 3) := by decide +kernel
theorem dX3_landFigure_88 : decode cX3_landFigure 88 = .ok (.ireturn, 1) := by decide +kernel
set_option maxRecDepth 20000 in
theorem ggX3_figure_X4_howMany : GoodIn wsX3_figure wsX4_howMany := goodIn_ca (goodIn_r _ [14, 15, 16, 17, 18, 19, 20, 21, 22, 69, 70, 71, 72, 73, 74, 75] (by decide +kernel) (by decide +kernel)) (goodIn_sub (fun _ h => List.mem_cons_of_mem _ (List.mem_append_right _ h)) (by decide +kernel))
set_option maxRecDepth 20000 in
theorem gX3_figure_X4_howMany : GoodIn wsX3_figure (wsV RX3 122 RX4 yX4_howMany wsX4_howMany) := goodIn_app (goodIn_of _ (by decide +kernel)) ggX3_figure_X4_howMany
set_option maxRecDepth 20000 in
theorem ggX3_figure_X3_coinsInAll : GoodIn wsX3_figure wsX3_coinsInAll := goodIn_ca (goodIn_r _ [27, 28, 29, 30, 31, 32, 33, 34, 35, 36, 37, 38, 39, 40, 41, 42, 18, 19, 20, 21, 22, 54, 55, 56, 57, 58, 59, 60, 61, 62, 76, 75] (by decide +kernel) (by decide +kernel)) (goodIn_sub (fun _ h => List.mem_cons_of_mem _ (List.mem_append_right _ h)) (by decide +kernel))
set_option maxRecDepth 20000 in
theorem gX3_figure_X3_coinsInAll : GoodIn wsX3_figure (wsV RX3 128 RX3 yX3_coinsInAll wsX3_coinsInAll) := goodIn_app (goodIn_of _ (by decide +kernel)) ggX3_figure_X3_coinsInAll
set_option maxRecDepth 20000 in
theorem ggX3_figure_X3_valueOfAll : GoodIn wsX3_figure wsX3_valueOfAll := goodIn_ca (goodIn_r _ [46, 47, 48, 49, 26, 50, 2, 3, 28, 51, 52, 35, 36, 32, 37, 38, 39, 40, 41, 42, 18, 19, 20, 21, 22, 53, 54, 55, 56, 57, 58, 59, 60, 61, 62, 63, 64, 65, 66, 67, 68, 76, 75] (by decide +kernel) (by decide +kernel)) (goodIn_sub (fun _ h => List.mem_cons_of_mem _ (List.mem_append_right _ h)) (by decide +kernel))
set_option maxRecDepth 20000 in
theorem gX3_figure_X3_valueOfAll : GoodIn wsX3_figure (wsV RX3 132 RX3 yX3_valueOfAll wsX3_valueOfAll) := goodIn_app (goodIn_of _ (by decide +kernel)) ggX3_figure_X3_valueOfAll
theorem dX3_figure_0 : decode cX3_figure 0 = .ok (.iload_n 1, 1) := by decide +kernel
theorem dX3_figure_1 : decode cX3_figure 1 = .ok (.tableswitch 119 0 9 #[55, 60, 68, 76, 85, 94, 99, 104, 109, 114], 55) := by decide +kernel
theorem dX3_figure_56 : decode cX3_figure 56 = .ok (.aload_n 0, 1) := by decide +kernel
theorem dX3_figure_57 : decode cX3_figure 57 = .ok (.getfield 118, 3) := by decide +kernel
theorem dX3_figure_60 : decode cX3_figure 60 = .ok (.ireturn, 1) := by decide +kernel
theorem dX3_figure_61 : decode cX3_figure 61 = .ok (.aload_n 0, 1) := by decide +kernel
theorem dX3_figure_62 : decode cX3_figure 62 = .ok (.getfield 12, 3) := by decide +kernel
theorem dX3_figure_65 : decode cX3_figure 65 = .ok (.getfield 95, 3) := by decide +kernel
theorem dX3_figure_68 : decode cX3_figure 68 = .ok (.ireturn, 1) := by decide +kernel
theorem dX3_figure_69 : decode cX3_figure 69 = .ok (.aload_n 0, 1) := by decide +kernel
theorem dX3_figure_70 : decode cX3_figure 70 = .ok (.getfield 21, 3) := by decide +kernel
theorem dX3_figure_73 : decode cX3_figure 73 = .ok (.getfield 121, 3) := by decide +kernel
theorem dX3_figure_76 : decode cX3_figure 76 = .ok (.ireturn, 1) := by decide +kernel
theorem dX3_figure_77 : decode cX3_figure 77 = .ok (.aload_n 0, 1) := by decide +kernel
theorem dX3_figure_78 : decode cX3_figure 78 = .ok (.getfield 21, 3) := by decide +kernel
theorem dX3_figure_81 : decode cX3_figure 81 = .ok (.iconst 0, 1) := by decide +kernel
theorem dX3_figure_82 : decode cX3_figure 82 = .ok (.invokevirtual 122, 3) := by decide +kernel
theorem dX3_figure_85 : decode cX3_figure 85 = .ok (.ireturn, 1) := by decide +kernel
theorem dX3_figure_86 : decode cX3_figure 86 = .ok (.aload_n 0, 1) := by decide +kernel
theorem dX3_figure_87 : decode cX3_figure 87 = .ok (.getfield 21, 3) := by decide +kernel
theorem dX3_figure_90 : decode cX3_figure 90 = .ok (.iconst 1, 1) := by decide +kernel
theorem dX3_figure_91 : decode cX3_figure 91 = .ok (.invokevirtual 122, 3) := by decide +kernel
theorem dX3_figure_94 : decode cX3_figure 94 = .ok (.ireturn, 1) := by decide +kernel
theorem dX3_figure_95 : decode cX3_figure 95 = .ok (.aload_n 0, 1) := by decide +kernel
theorem dX3_figure_96 : decode cX3_figure 96 = .ok (.getfield 41, 3) := by decide +kernel
theorem dX3_figure_99 : decode cX3_figure 99 = .ok (.ireturn, 1) := by decide +kernel
theorem dX3_figure_100 : decode cX3_figure 100 = .ok (.aload_n 0, 1) := by decide +kernel
theorem dX3_figure_101 : decode cX3_figure 101 = .ok (.getfield 125, 3) := by decide +kernel
theorem dX3_figure_104 : decode cX3_figure 104 = .ok (.ireturn, 1) := by decide +kernel
theorem dX3_figure_105 : decode cX3_figure 105 = .ok (.aload_n 0, 1) := by decide +kernel
theorem dX3_figure_106 : decode cX3_figure 106 = .ok (.invokevirtual 128, 3) := by decide +kernel
theorem dX3_figure_109 : decode cX3_figure 109 = .ok (.ireturn, 1) := by decide +kernel
theorem dX3_figure_110 : decode cX3_figure 110 = .ok (.aload_n 0, 1) := by decide +kernel
theorem dX3_figure_111 : decode cX3_figure 111 = .ok (.invokevirtual 132, 3) := by decide +kernel
theorem dX3_figure_114 : decode cX3_figure 114 = .ok (.ireturn, 1) := by decide +kernel
theorem dX3_figure_115 : decode cX3_figure 115 = .ok (.aload_n 0, 1) := by decide +kernel
theorem dX3_figure_116 : decode cX3_figure 116 = .ok (.getfield 103, 3) := by decide +kernel
theorem dX3_figure_119 : decode cX3_figure 119 = .ok (.ireturn, 1) := by decide +kernel
theorem dX3_figure_120 : decode cX3_figure 120 = .ok (.aload_n 0, 1) := by decide +kernel
theorem dX3_figure_121 : decode cX3_figure 121 = .ok (.getfield 92, 3) := by decide +kernel
theorem dX3_figure_124 : decode cX3_figure 124 = .ok (.ireturn, 1) := by decide +kernel
set_option maxRecDepth 20000 in
theorem ggX3_nextWish_X3_coinValue : GoodIn wsX3_nextWish wsX3_coinValue := goodIn_ca (goodIn_r _ [7, 8, 9, 1, 10, 11, 12, 13, 14, 15, 16, 25, 26, 27, 28, 29, 30, 31, 32, 33, 40, 41, 42, 43, 44, 45, 34, 35, 36, 37, 38, 39, 46] (by decide +kernel) (by decide +kernel)) (goodIn_sub (fun _ h => List.mem_cons_of_mem _ (List.mem_append_right _ h)) (by decide +kernel))
set_option maxRecDepth 20000 in
theorem gX3_nextWish_X3_coinValue : GoodIn wsX3_nextWish (wsV RX3 135 RX3 yX3_coinValue wsX3_coinValue) := goodIn_app (goodIn_of _ (by decide +kernel)) ggX3_nextWish_X3_coinValue
set_option maxRecDepth 20000 in
theorem ggX3_nextWish_X4_waitsFor : GoodIn wsX3_nextWish wsX4_waitsFor := goodIn_ca (goodIn_r _ [21, 22, 23, 24, 12, 13, 14, 15, 16, 34, 35, 36, 37, 38, 39, 46] (by decide +kernel) (by decide +kernel)) (goodIn_sub (fun _ h => List.mem_cons_of_mem _ (List.mem_append_right _ h)) (by decide +kernel))
set_option maxRecDepth 20000 in
theorem gX3_nextWish_X4_waitsFor : GoodIn wsX3_nextWish (wsV RX3 138 RX4 yX4_waitsFor wsX4_waitsFor) := goodIn_app (goodIn_of _ (by decide +kernel)) ggX3_nextWish_X4_waitsFor
theorem dX3_nextWish_0 : decode cX3_nextWish 0 = .ok (.iconst (-1), 1) := by decide +kernel
theorem dX3_nextWish_1 : decode cX3_nextWish 1 = .ok (.istore_n 2, 1) := by decide +kernel
theorem dX3_nextWish_2 : decode cX3_nextWish 2 = .ok (.iconst 0, 1) := by decide +kernel
theorem dX3_nextWish_3 : decode cX3_nextWish 3 = .ok (.istore_n 3, 1) := by decide +kernel
theorem dX3_nextWish_4 : decode cX3_nextWish 4 = .ok (.iconst 0, 1) := by decide +kernel
theorem dX3_nextWish_5 : decode cX3_nextWish 5 = .ok (.istore 4, 2) := by decide +kernel
theorem dX3_nextWish_7 : decode cX3_nextWish 7 = .ok (.iload 4, 2) := by decide +kernel
theorem dX3_nextWish_9 : decode cX3_nextWish 9 = .ok (.aload_n 0, 1) := by decide +kernel
theorem dX3_nextWish_10 : decode cX3_nextWish 10 = .ok (.getfield 21, 3) := by decide +kernel
theorem dX3_nextWish_13 : decode cX3_nextWish 13 = .ok (.getfield 121, 3) := by decide +kernel
theorem dX3_nextWish_16 : decode cX3_nextWish 16 = .ok (.if_icmp .ge 42, 3) := by decide +kernel
theorem dX3_nextWish_19 : decode cX3_nextWish 19 = .ok (.aload_n 0, 1) := by decide +kernel
theorem dX3_nextWish_20 : decode cX3_nextWish 20 = .ok (.iload 4, 2) := by decide +kernel
theorem dX3_nextWish_22 : decode cX3_nextWish 22 = .ok (.invokevirtual 135, 3) := by decide +kernel
theorem dX3_nextWish_25 : decode cX3_nextWish 25 = .ok (.istore 5, 2) := by decide +kernel
theorem dX3_nextWish_27 : decode cX3_nextWish 27 = .ok (.aload_n 0, 1) := by decide +kernel
theorem dX3_nextWish_28 : decode cX3_nextWish 28 = .ok (.getfield 21, 3) := by decide +kernel
theorem dX3_nextWish_31 : decode cX3_nextWish 31 = .ok (.iload 4, 2) := by decide +kernel
theorem dX3_nextWish_33 : decode cX3_nextWish 33 = .ok (.iload_n 1, 1) := by decide +kernel
theorem dX3_nextWish_34 : decode cX3_nextWish 34 = .ok (.invokevirtual 138, 3) := by decide +kernel
theorem dX3_nextWish_37 : decode cX3_nextWish 37 = .ok (.ifCond .eq 15, 3) := by decide +kernel
theorem dX3_nextWish_40 : decode cX3_nextWish 40 = .ok (.iload 5, 2) := by decide +kernel
theorem dX3_nextWish_42 : decode cX3_nextWish 42 = .ok (.iload_n 3, 1) := by decide +kernel
theorem dX3_nextWish_43 : decode cX3_nextWish 43 = .ok (.if_icmp .le 9, 3) := by decide +kernel
theorem dX3_nextWish_46 : decode cX3_nextWish 46 = .ok (.iload 4, 2) := by decide +kernel
theorem dX3_nextWish_48 : decode cX3_nextWish 48 = .ok (.istore_n 2, 1) := by decide +kernel
theorem dX3_nextWish_49 : decode cX3_nextWish 49 = .ok (.iload 5, 2) := by decide +kernel
theorem dX3_nextWish_51 : decode cX3_nextWish 51 = .ok (.istore_n 3, 1) := by decide +kernel
theorem dX3_nextWish_52 : decode cX3_nextWish 52 = .ok (.iinc 4 1, 3) := by decide +kernel
theorem dX3_nextWish_55 : decode cX3_nextWish 55 = .ok (.goto (-48), 3) := by decide +kernel
theorem dX3_nextWish_58 : decode cX3_nextWish 58 = .ok (.iload_n 2, 1) := by decide +kernel
theorem dX3_nextWish_59 : decode cX3_nextWish 59 = .ok (.ireturn, 1) := by decide +kernel
set_option maxRecDepth 20000 in
theorem ggX3_coinValue_X2_at : GoodIn wsX3_coinValue wsX2_at := goodIn_ca (goodIn_r _ [9, 10, 32] (by decide +kernel) (by decide +kernel)) (goodIn_sub (fun _ h => List.mem_cons_of_mem _ (List.mem_append_right _ h)) (by decide +kernel))
set_option maxRecDepth 20000 in
theorem gX3_coinValue_X2_at : GoodIn wsX3_coinValue (wsV RX3 58 RX2 yX2_at wsX2_at) := goodIn_app (goodIn_of _ (by decide +kernel)) ggX3_coinValue_X2_at
theorem dX3_coinValue_0 : decode cX3_coinValue 0 = .ok (.aload_n 0, 1) := by decide +kernel
theorem dX3_coinValue_1 : decode cX3_coinValue 1 = .ok (.getfield 12, 3) := by decide +kernel
theorem dX3_coinValue_4 : decode cX3_coinValue 4 = .ok (.getfield 55, 3) := by decide +kernel
theorem dX3_coinValue_7 : decode cX3_coinValue 7 = .ok (.aload_n 0, 1) := by decide +kernel
theorem dX3_coinValue_8 : decode cX3_coinValue 8 = .ok (.getfield 21, 3) := by decide +kernel
theorem dX3_coinValue_11 : decode cX3_coinValue 11 = .ok (.getfield 71, 3) := by decide +kernel
theorem dX3_coinValue_14 : decode cX3_coinValue 14 = .ok (.iload_n 1, 1) := by decide +kernel
theorem dX3_coinValue_15 : decode cX3_coinValue 15 = .ok (.invokevirtual 58, 3) := by decide +kernel
theorem dX3_coinValue_18 : decode cX3_coinValue 18 = .ok (.invokevirtual 58, 3) := by decide +kernel
theorem dX3_coinValue_21 : decode cX3_coinValue 21 = .ok (.ireturn, 1) := by decide +kernel
set_option maxRecDepth 20000 in
theorem ggX3_liveDays_X3_liveDay : GoodIn wsX3_liveDays wsX3_liveDay := goodIn_ca (goodIn_r _ [5, 6, 7, 8, 9, 10, 4, 11, 12, 13, 14, 15, 16, 17, 18, 19, 20, 21, 22, 23, 24, 25, 26, 27, 28, 29, 30, 31, 32, 33, 34, 35, 36, 37, 38, 39, 40, 41, 42, 43, 44, 45, 46, 47, 48, 49, 50, 51, 52, 53, 54, 55, 56, 57, 58, 59, 60, 61, 62, 63, 64, 65, 66, 67, 68, 69, 70, 71, 72, 73, 74, 75, 76, 77, 78, 79, 80, 81, 82, 83, 84, 85, 86, 87, 88, 89, 90, 91, 92, 93, 94, 95, 96, 97, 98, 99, 100, 101, 102, 103, 104, 105, 106, 107, 108, 109, 110, 111, 112] (by decide +kernel) (by decide +kernel)) (goodIn_sub (fun _ h => List.mem_cons_of_mem _ (List.mem_append_right _ h)) (by decide +kernel))
set_option maxRecDepth 20000 in
theorem gX3_liveDays_X3_liveDay : GoodIn wsX3_liveDays (wsV RX3 142 RX3 yX3_liveDay wsX3_liveDay) := goodIn_app (goodIn_of _ (by decide +kernel)) ggX3_liveDays_X3_liveDay
theorem dX3_liveDays_0 : decode cX3_liveDays 0 = .ok (.iconst 0, 1) := by decide +kernel
theorem dX3_liveDays_1 : decode cX3_liveDays 1 = .ok (.istore_n 2, 1) := by decide +kernel
theorem dX3_liveDays_2 : decode cX3_liveDays 2 = .ok (.iconst 0, 1) := by decide +kernel
theorem dX3_liveDays_3 : decode cX3_liveDays 3 = .ok (.istore_n 3, 1) := by decide +kernel
theorem dX3_liveDays_4 : decode cX3_liveDays 4 = .ok (.iload_n 3, 1) := by decide +kernel
theorem dX3_liveDays_5 : decode cX3_liveDays 5 = .ok (.iload_n 1, 1) := by decide +kernel
theorem dX3_liveDays_6 : decode cX3_liveDays 6 = .ok (.if_icmp .ge 19, 3) := by decide +kernel
theorem dX3_liveDays_9 : decode cX3_liveDays 9 = .ok (.aload_n 0, 1) := by decide +kernel
theorem dX3_liveDays_10 : decode cX3_liveDays 10 = .ok (.invokevirtual 142, 3) := by decide +kernel
theorem dX3_liveDays_13 : decode cX3_liveDays 13 = .ok (.ifCond .eq 6, 3) := by decide +kernel
theorem dX3_liveDays_16 : decode cX3_liveDays 16 = .ok (.iinc 2 1, 3) := by decide +kernel
theorem dX3_liveDays_19 : decode cX3_liveDays 19 = .ok (.iinc 3 1, 3) := by decide +kernel
theorem dX3_liveDays_22 : decode cX3_liveDays 22 = .ok (.goto (-18), 3) := by decide +kernel
theorem dX3_liveDays_25 : decode cX3_liveDays 25 = .ok (.iload_n 2, 1) := by decide +kernel
theorem dX3_liveDays_26 : decode cX3_liveDays 26 = .ok (.ireturn, 1) := by decide +kernel
set_option maxRecDepth 20000 in
theorem ggX3_liveDay_X3_receiveVisitors : GoodIn wsX3_liveDay wsX3_receiveVisitors := goodIn_ca (goodIn_r _ [7, 8, 9, 10, 2, 11, 12, 13, 14, 15, 16, 17, 18, 19, 6, 20, 21, 22, 23, 24, 25, 26, 27, 28, 29, 30, 31, 32, 33, 34, 35, 36, 37, 38, 39, 40, 41, 42, 43, 44, 45, 46, 86, 87, 88, 89, 90, 91, 92, 93, 94, 95, 96, 97, 98, 99, 100, 101, 102] (by decide +kernel) (by decide +kernel)) (goodIn_sub (fun _ h => List.mem_cons_of_mem _ (List.mem_append_right _ h)) (by decide +kernel))
set_option maxRecDepth 20000 in
theorem gX3_liveDay_X3_receiveVisitors : GoodIn wsX3_liveDay (wsV RX3 146 RX3 yX3_receiveVisitors wsX3_receiveVisitors) := goodIn_app (goodIn_of _ (by decide +kernel)) ggX3_liveDay_X3_receiveVisitors
set_option maxRecDepth 20000 in
theorem ggX3_liveDay_X3_sinkCoins : GoodIn wsX3_liveDay wsX3_sinkCoins := goodIn_ca (goodIn_r _ [50, 8, 9, 21, 51, 52, 53, 54, 27, 55, 29, 30, 31, 32, 56, 12, 13, 14, 15, 16, 11, 24, 25, 26, 28, 33, 34, 35, 36, 86, 87, 88, 89, 90, 91, 92, 93, 94, 95, 96, 97, 98, 99, 100, 102, 101] (by decide +kernel) (by decide +kernel)) (goodIn_sub (fun _ h => List.mem_cons_of_mem _ (List.mem_append_right _ h)) (by decide +kernel))
set_option maxRecDepth 20000 in
theorem gX3_liveDay_X3_sinkCoins : GoodIn wsX3_liveDay (wsV RX3 149 RX3 yX3_sinkCoins wsX3_sinkCoins) := goodIn_app (goodIn_of _ (by decide +kernel)) ggX3_liveDay_X3_sinkCoins
set_option maxRecDepth 20000 in
theorem ggX3_liveDay_X3_grantNext : GoodIn wsX3_liveDay wsX3_grantNext := goodIn_ca (goodIn_r _ [60, 1, 42, 61, 62, 63, 2, 64, 65, 66, 6, 67, 68, 69, 70, 71, 72, 8, 23, 73, 11, 12, 13, 14, 15, 16, 74, 75, 76, 77, 78, 79, 80, 81, 82, 83, 84, 85, 86, 87, 88, 89, 90, 91, 92, 93, 94, 103, 104, 105, 106, 107, 108, 95, 96, 97, 98, 99, 100, 101] (by decide +kernel) (by decide +kernel)) (goodIn_sub (fun _ h => List.mem_cons_of_mem _ (List.mem_append_right _ h)) (by decide +kernel))
set_option maxRecDepth 20000 in
theorem gX3_liveDay_X3_grantNext : GoodIn wsX3_liveDay (wsV RX3 152 RX3 yX3_grantNext wsX3_grantNext) := goodIn_app (goodIn_of _ (by decide +kernel)) ggX3_liveDay_X3_grantNext
set_option maxRecDepth 20000 in
theorem ggX3_liveDay_X3_raiseFavour : GoodIn wsX3_liveDay wsX3_raiseFavour := goodIn_r _ [41, 42, 43, 44, 45, 46, 86, 87, 88, 89, 90, 91, 92, 93, 94] (by decide +kernel) (by decide +kernel)
set_option maxRecDepth 20000 in
theorem gX3_liveDay_X3_raiseFavour : GoodIn wsX3_liveDay (wsV RX3 62 RX3 yX3_raiseFavour wsX3_raiseFavour) := goodIn_app (goodIn_of _ (by decide +kernel)) ggX3_liveDay_X3_raiseFavour
theorem dX3_liveDay_0 : decode cX3_liveDay 0 = .ok (.aload_n 0, 1) := by decide +kernel
theorem dX3_liveDay_1 : decode cX3_liveDay 1 = .ok (.invokevirtual 146, 3) := by decide +kernel
theorem dX3_liveDay_4 : decode cX3_liveDay 4 = .ok (.aload_n 0, 1) := by decide +kernel
theorem dX3_liveDay_5 : decode cX3_liveDay 5 = .ok (.invokevirtual 149, 3) := by decide +kernel
theorem dX3_liveDay_8 : decode cX3_liveDay 8 = .ok (.aload_n 0, 1) := by decide +kernel
theorem dX3_liveDay_9 : decode cX3_liveDay 9 = .ok (.invokevirtual 152, 3) := by decide +kernel
theorem dX3_liveDay_12 : decode cX3_liveDay 12 = .ok (.istore_n 1, 1) := by decide +kernel
theorem dX3_liveDay_13 : decode cX3_liveDay 13 = .ok (.iload_n 1, 1) := by decide +kernel
theorem dX3_liveDay_14 : decode cX3_liveDay 14 = .ok (.ifCond .ne 8, 3) := by decide +kernel
theorem dX3_liveDay_17 : decode cX3_liveDay 17 = .ok (.aload_n 0, 1) := by decide +kernel
theorem dX3_liveDay_18 : decode cX3_liveDay 18 = .ok (.iconst 2, 1) := by decide +kernel
theorem dX3_liveDay_19 : decode cX3_liveDay 19 = .ok (.invokevirtual 62, 3) := by decide +kernel
theorem dX3_liveDay_22 : decode cX3_liveDay 22 = .ok (.aload_n 0, 1) := by decide +kernel
theorem dX3_liveDay_23 : decode cX3_liveDay 23 = .ok (.aload_n 0, 1) := by decide +kernel
theorem dX3_liveDay_24 : decode cX3_liveDay 24 = .ok (.getfield 125, 3) := by decide +kernel
theorem dX3_liveDay_27 : decode cX3_liveDay 27 = .ok (.iconst 1, 1) := by decide +kernel
theorem dX3_liveDay_28 : decode cX3_liveDay 28 = .ok (.iadd, 1) := by decide +kernel
theorem dX3_liveDay_29 : decode cX3_liveDay 29 = .ok (.iconst 4, 1) := by decide +kernel
theorem dX3_liveDay_30 : decode cX3_liveDay 30 = .ok (.irem, 1) := by decide +kernel
theorem dX3_liveDay_31 : decode cX3_liveDay 31 = .ok (.putfield 125, 3) := by decide +kernel
theorem dX3_liveDay_34 : decode cX3_liveDay 34 = .ok (.aload_n 0, 1) := by decide +kernel
theorem dX3_liveDay_35 : decode cX3_liveDay 35 = .ok (.dup, 1) := by decide +kernel
theorem dX3_liveDay_36 : decode cX3_liveDay 36 = .ok (.getfield 118, 3) := by decide +kernel
theorem dX3_liveDay_39 : decode cX3_liveDay 39 = .ok (.iconst 1, 1) := by decide +kernel
theorem dX3_liveDay_40 : decode cX3_liveDay 40 = .ok (.iadd, 1) := by decide +kernel
theorem dX3_liveDay_41 : decode cX3_liveDay 41 = .ok (.putfield 118, 3) := by decide +kernel
theorem dX3_liveDay_44 : decode cX3_liveDay 44 = .ok (.iload_n 1, 1) := by decide +kernel
theorem dX3_liveDay_45 : decode cX3_liveDay 45 = .ok (.ireturn, 1) := by decide +kernel
set_option maxRecDepth 20000 in
theorem ggX3_receiveVisitors_X2_at : GoodIn wsX3_receiveVisitors wsX2_at := goodIn_ca (goodIn_r _ [9, 10, 57] (by decide +kernel) (by decide +kernel)) (goodIn_sub (fun _ h => List.mem_cons_of_mem _ (List.mem_append_right _ h)) (by decide +kernel))
set_option maxRecDepth 20000 in
theorem gX3_receiveVisitors_X2_at : GoodIn wsX3_receiveVisitors (wsV RX3 58 RX2 yX2_at wsX2_at) := goodIn_app (goodIn_of _ (by decide +kernel)) ggX3_receiveVisitors_X2_at
set_option maxRecDepth 20000 in
theorem ggX3_receiveVisitors_X3_throwCoin : GoodIn wsX3_receiveVisitors wsX3_throwCoin := goodIn_ca (goodIn_r _ [15, 16, 1, 17, 18, 19, 20, 21, 22, 23, 24, 25, 26, 27, 28, 29, 30, 8, 31, 10, 32, 5, 6, 7, 9, 33, 34, 35, 14, 36, 37, 38, 39, 40, 41, 42, 43, 44, 45, 46, 47, 48, 49, 50, 51, 52, 53, 54, 55, 56, 58, 57] (by decide +kernel) (by decide +kernel)) (goodIn_sub (fun _ h => List.mem_cons_of_mem _ (List.mem_append_right _ h)) (by decide +kernel))
set_option maxRecDepth 20000 in
theorem gX3_receiveVisitors_X3_throwCoin : GoodIn wsX3_receiveVisitors (wsV RX3 155 RX3 yX3_throwCoin wsX3_throwCoin) := goodIn_app (goodIn_of _ (by decide +kernel)) ggX3_receiveVisitors_X3_throwCoin
theorem dX3_receiveVisitors_0 : decode cX3_receiveVisitors 0 = .ok (.aload_n 0, 1) := by decide +kernel
theorem dX3_receiveVisitors_1 : decode cX3_receiveVisitors 1 = .ok (.getfield 12, 3) := by decide +kernel
theorem dX3_receiveVisitors_4 : decode cX3_receiveVisitors 4 = .ok (.getfield 95, 3) := by decide +kernel
theorem dX3_receiveVisitors_7 : decode cX3_receiveVisitors 7 = .ok (.ifCond .gt 4, 3) := by decide +kernel
theorem dX3_receiveVisitors_10 : decode cX3_receiveVisitors 10 = .ok (.return_, 1) := by decide +kernel
theorem dX3_receiveVisitors_11 : decode cX3_receiveVisitors 11 = .ok (.aload_n 0, 1) := by decide +kernel
theorem dX3_receiveVisitors_12 : decode cX3_receiveVisitors 12 = .ok (.getfield 37, 3) := by decide +kernel
theorem dX3_receiveVisitors_15 : decode cX3_receiveVisitors 15 = .ok (.aload_n 0, 1) := by decide +kernel
theorem dX3_receiveVisitors_16 : decode cX3_receiveVisitors 16 = .ok (.getfield 118, 3) := by decide +kernel
theorem dX3_receiveVisitors_19 : decode cX3_receiveVisitors 19 = .ok (.bipush 7, 2) := by decide +kernel
theorem dX3_receiveVisitors_21 : decode cX3_receiveVisitors 21 = .ok (.irem, 1) := by decide +kernel
theorem dX3_receiveVisitors_22 : decode cX3_receiveVisitors 22 = .ok (.invokevirtual 58, 3) := by decide +kernel
theorem dX3_receiveVisitors_25 : decode cX3_receiveVisitors 25 = .ok (.istore_n 1, 1) := by decide +kernel
theorem dX3_receiveVisitors_26 : decode cX3_receiveVisitors 26 = .ok (.iconst 0, 1) := by decide +kernel
theorem dX3_receiveVisitors_27 : decode cX3_receiveVisitors 27 = .ok (.istore_n 2, 1) := by decide +kernel
theorem dX3_receiveVisitors_28 : decode cX3_receiveVisitors 28 = .ok (.iload_n 2, 1) := by decide +kernel
theorem dX3_receiveVisitors_29 : decode cX3_receiveVisitors 29 = .ok (.iload_n 1, 1) := by decide +kernel
theorem dX3_receiveVisitors_30 : decode cX3_receiveVisitors 30 = .ok (.if_icmp .ge 27, 3) := by decide +kernel
theorem dX3_receiveVisitors_33 : decode cX3_receiveVisitors 33 = .ok (.aload_n 0, 1) := by decide +kernel
theorem dX3_receiveVisitors_34 : decode cX3_receiveVisitors 34 = .ok (.aload_n 0, 1) := by decide +kernel
theorem dX3_receiveVisitors_35 : decode cX3_receiveVisitors 35 = .ok (.getfield 118, 3) := by decide +kernel
theorem dX3_receiveVisitors_38 : decode cX3_receiveVisitors 38 = .ok (.iload_n 2, 1) := by decide +kernel
theorem dX3_receiveVisitors_39 : decode cX3_receiveVisitors 39 = .ok (.iadd, 1) := by decide +kernel
theorem dX3_receiveVisitors_40 : decode cX3_receiveVisitors 40 = .ok (.aload_n 0, 1) := by decide +kernel
theorem dX3_receiveVisitors_41 : decode cX3_receiveVisitors 41 = .ok (.getfield 12, 3) := by decide +kernel
theorem dX3_receiveVisitors_44 : decode cX3_receiveVisitors 44 = .ok (.getfield 95, 3) := by decide +kernel
theorem dX3_receiveVisitors_47 : decode cX3_receiveVisitors 47 = .ok (.irem, 1) := by decide +kernel
theorem dX3_receiveVisitors_48 : decode cX3_receiveVisitors 48 = .ok (.invokevirtual 155, 3) := by decide +kernel
theorem dX3_receiveVisitors_51 : decode cX3_receiveVisitors 51 = .ok (.iinc 2 1, 3) := by decide +kernel
theorem dX3_receiveVisitors_54 : decode cX3_receiveVisitors 54 = .ok (.goto (-26), 3) := by decide +kernel
theorem dX3_receiveVisitors_57 : decode cX3_receiveVisitors 57 = .ok (.return_, 1) := by decide +kernel
set_option maxRecDepth 20000 in
theorem ggX3_sinkCoins_X1_at : GoodIn wsX3_sinkCoins wsX1_at := goodIn_ca (goodIn_r _ [9, 10, 11, 12, 8, 13, 14, 15, 16, 17, 18, 19, 44, 45] (by decide +kernel) (by decide +kernel)) (goodIn_sub (fun _ h => List.mem_cons_of_mem _ (List.mem_append_right _ h)) (by decide +kernel))
set_option maxRecDepth 20000 in
theorem gX3_sinkCoins_X1_at : GoodIn wsX3_sinkCoins (wsV RX3 98 RX1 yX1_at wsX1_at) := goodIn_app (goodIn_of _ (by decide +kernel)) ggX3_sinkCoins_X1_at
set_option maxRecDepth 20000 in
theorem ggX3_sinkCoins_X2_at : GoodIn wsX3_sinkCoins wsX2_at := goodIn_ca (goodIn_r _ [18, 19, 45] (by decide +kernel) (by decide +kernel)) (goodIn_sub (fun _ h => List.mem_cons_of_mem _ (List.mem_append_right _ h)) (by decide +kernel))
set_option maxRecDepth 20000 in
theorem gX3_sinkCoins_X2_at : GoodIn wsX3_sinkCoins (wsV RX3 58 RX2 yX2_at wsX2_at) := goodIn_app (goodIn_of _ (by decide +kernel)) ggX3_sinkCoins_X2_at
set_option maxRecDepth 20000 in
theorem ggX3_sinkCoins_X1_add : GoodIn wsX3_sinkCoins wsX1_add := goodIn_ca (goodIn_r _ [24, 10, 11, 12, 8, 13, 25, 26, 27, 17, 28, 19, 44, 45] (by decide +kernel) (by decide +kernel)) (goodIn_sub (fun _ h => List.mem_cons_of_mem _ (List.mem_append_right _ h)) (by decide +kernel))
set_option maxRecDepth 20000 in
theorem gX3_sinkCoins_X1_add : GoodIn wsX3_sinkCoins (wsV RX3 45 RX1 yX1_add wsX1_add) := goodIn_app (goodIn_of _ (by decide +kernel)) ggX3_sinkCoins_X1_add
theorem dX3_sinkCoins_0 : decode cX3_sinkCoins 0 = .ok (.iconst 3, 1) := by decide +kernel
theorem dX3_sinkCoins_1 : decode cX3_sinkCoins 1 = .ok (.istore_n 1, 1) := by decide +kernel
theorem dX3_sinkCoins_2 : decode cX3_sinkCoins 2 = .ok (.iload_n 1, 1) := by decide +kernel
theorem dX3_sinkCoins_3 : decode cX3_sinkCoins 3 = .ok (.ifCond .lt 89, 3) := by decide +kernel
theorem dX3_sinkCoins_6 : decode cX3_sinkCoins 6 = .ok (.iconst 0, 1) := by decide +kernel
theorem dX3_sinkCoins_7 : decode cX3_sinkCoins 7 = .ok (.istore_n 2, 1) := by decide +kernel
theorem dX3_sinkCoins_8 : decode cX3_sinkCoins 8 = .ok (.iload_n 2, 1) := by decide +kernel
theorem dX3_sinkCoins_9 : decode cX3_sinkCoins 9 = .ok (.aload_n 0, 1) := by decide +kernel
theorem dX3_sinkCoins_10 : decode cX3_sinkCoins 10 = .ok (.getfield 12, 3) := by decide +kernel
theorem dX3_sinkCoins_13 : decode cX3_sinkCoins 13 = .ok (.getfield 95, 3) := by decide +kernel
theorem dX3_sinkCoins_16 : decode cX3_sinkCoins 16 = .ok (.if_icmp .ge 70, 3) := by decide +kernel
theorem dX3_sinkCoins_19 : decode cX3_sinkCoins 19 = .ok (.aload_n 0, 1) := by decide +kernel
theorem dX3_sinkCoins_20 : decode cX3_sinkCoins 20 = .ok (.getfield 28, 3) := by decide +kernel
theorem dX3_sinkCoins_23 : decode cX3_sinkCoins 23 = .ok (.iload_n 1, 1) := by decide +kernel
theorem dX3_sinkCoins_24 : decode cX3_sinkCoins 24 = .ok (.iload_n 2, 1) := by decide +kernel
theorem dX3_sinkCoins_25 : decode cX3_sinkCoins 25 = .ok (.invokevirtual 98, 3) := by decide +kernel
theorem dX3_sinkCoins_28 : decode cX3_sinkCoins 28 = .ok (.istore_n 3, 1) := by decide +kernel
theorem dX3_sinkCoins_29 : decode cX3_sinkCoins 29 = .ok (.aload_n 0, 1) := by decide +kernel
theorem dX3_sinkCoins_30 : decode cX3_sinkCoins 30 = .ok (.getfield 12, 3) := by decide +kernel
theorem dX3_sinkCoins_33 : decode cX3_sinkCoins 33 = .ok (.getfield 115, 3) := by decide +kernel
theorem dX3_sinkCoins_36 : decode cX3_sinkCoins 36 = .ok (.iload_n 2, 1) := by decide +kernel
theorem dX3_sinkCoins_37 : decode cX3_sinkCoins 37 = .ok (.invokevirtual 58, 3) := by decide +kernel
theorem dX3_sinkCoins_40 : decode cX3_sinkCoins 40 = .ok (.iconst 4, 1) := by decide +kernel
theorem dX3_sinkCoins_41 : decode cX3_sinkCoins 41 = .ok (.if_icmp .lt 9, 3) := by decide +kernel
theorem dX3_sinkCoins_44 : decode cX3_sinkCoins 44 = .ok (.iload_n 3, 1) := by decide +kernel
theorem dX3_sinkCoins_45 : decode cX3_sinkCoins 45 = .ok (.iconst 2, 1) := by decide +kernel
theorem dX3_sinkCoins_46 : decode cX3_sinkCoins 46 = .ok (.idiv, 1) := by decide +kernel
theorem dX3_sinkCoins_47 : decode cX3_sinkCoins 47 = .ok (.goto 6, 3) := by decide +kernel
theorem dX3_sinkCoins_50 : decode cX3_sinkCoins 50 = .ok (.iload_n 3, 1) := by decide +kernel
theorem dX3_sinkCoins_51 : decode cX3_sinkCoins 51 = .ok (.iconst 4, 1) := by decide +kernel
theorem dX3_sinkCoins_52 : decode cX3_sinkCoins 52 = .ok (.idiv, 1) := by decide +kernel
theorem dX3_sinkCoins_53 : decode cX3_sinkCoins 53 = .ok (.istore 4, 2) := by decide +kernel
theorem dX3_sinkCoins_55 : decode cX3_sinkCoins 55 = .ok (.aload_n 0, 1) := by decide +kernel
theorem dX3_sinkCoins_56 : decode cX3_sinkCoins 56 = .ok (.getfield 28, 3) := by decide +kernel
theorem dX3_sinkCoins_59 : decode cX3_sinkCoins 59 = .ok (.iload_n 1, 1) := by decide +kernel
theorem dX3_sinkCoins_60 : decode cX3_sinkCoins 60 = .ok (.iload_n 2, 1) := by decide +kernel
theorem dX3_sinkCoins_61 : decode cX3_sinkCoins 61 = .ok (.iload 4, 2) := by decide +kernel
theorem dX3_sinkCoins_63 : decode cX3_sinkCoins 63 = .ok (.ineg, 1) := by decide +kernel
theorem dX3_sinkCoins_64 : decode cX3_sinkCoins 64 = .ok (.invokevirtual 45, 3) := by decide +kernel
theorem dX3_sinkCoins_67 : decode cX3_sinkCoins 67 = .ok (.aload_n 0, 1) := by decide +kernel
theorem dX3_sinkCoins_68 : decode cX3_sinkCoins 68 = .ok (.getfield 28, 3) := by decide +kernel
theorem dX3_sinkCoins_71 : decode cX3_sinkCoins 71 = .ok (.iload_n 1, 1) := by decide +kernel
theorem dX3_sinkCoins_72 : decode cX3_sinkCoins 72 = .ok (.iconst 1, 1) := by decide +kernel
theorem dX3_sinkCoins_73 : decode cX3_sinkCoins 73 = .ok (.iadd, 1) := by decide +kernel
theorem dX3_sinkCoins_74 : decode cX3_sinkCoins 74 = .ok (.iload_n 2, 1) := by decide +kernel
theorem dX3_sinkCoins_75 : decode cX3_sinkCoins 75 = .ok (.iload 4, 2) := by decide +kernel
theorem dX3_sinkCoins_77 : decode cX3_sinkCoins 77 = .ok (.invokevirtual 45, 3) := by decide +kernel
theorem dX3_sinkCoins_80 : decode cX3_sinkCoins 80 = .ok (.iinc 2 1, 3) := by decide +kernel
theorem dX3_sinkCoins_83 : decode cX3_sinkCoins 83 = .ok (.goto (-75), 3) := by decide +kernel
theorem dX3_sinkCoins_86 : decode cX3_sinkCoins 86 = .ok (.iinc 1 (-1), 3) := by decide +kernel
theorem dX3_sinkCoins_89 : decode cX3_sinkCoins 89 = .ok (.goto (-87), 3) := by decide +kernel
theorem dX3_sinkCoins_92 : decode cX3_sinkCoins 92 = .ok (.return_, 1) := by decide +kernel
set_option maxRecDepth 20000 in
theorem ggX3_grantNext_X3_nextWish : GoodIn wsX3_grantNext wsX3_nextWish := goodIn_ca (goodIn_r _ [11, 3, 12, 13, 14, 15, 10, 16, 17, 18, 19, 20, 21, 22, 23, 24, 25, 26, 27, 28, 29, 30, 31, 32, 33, 38, 39, 40, 41, 42, 43, 44, 45, 46, 47, 48, 49, 50, 51, 52, 53, 54, 55, 56, 57, 58, 59] (by decide +kernel) (by decide +kernel)) (goodIn_sub (fun _ h => List.mem_cons_of_mem _ (List.mem_append_right _ h)) (by decide +kernel))
set_option maxRecDepth 20000 in
theorem gX3_grantNext_X3_nextWish : GoodIn wsX3_grantNext (wsV RX3 158 RX3 yX3_nextWish wsX3_nextWish) := goodIn_app (goodIn_of _ (by decide +kernel)) ggX3_grantNext_X3_nextWish
set_option maxRecDepth 20000 in
theorem ggX3_grantNext_X3_coinValue : GoodIn wsX3_grantNext wsX3_coinValue := goodIn_ca (goodIn_r _ [16, 17, 18, 3, 19, 20, 21, 22, 23, 24, 25, 38, 39, 40, 41, 42, 43, 44, 45, 46, 53, 54, 55, 56, 57, 58, 47, 48, 49, 50, 51, 52, 59] (by decide +kernel) (by decide +kernel)) (goodIn_sub (fun _ h => List.mem_cons_of_mem _ (List.mem_append_right _ h)) (by decide +kernel))
set_option maxRecDepth 20000 in
theorem gX3_grantNext_X3_coinValue : GoodIn wsX3_grantNext (wsV RX3 135 RX3 yX3_coinValue wsX3_coinValue) := goodIn_app (goodIn_of _ (by decide +kernel)) ggX3_grantNext_X3_coinValue
set_option maxRecDepth 20000 in
theorem ggX3_grantNext_X2_put : GoodIn wsX3_grantNext wsX2_put := goodIn_ca (goodIn_r _ [37, 25, 59] (by decide +kernel) (by decide +kernel)) (goodIn_sub (fun _ h => List.mem_cons_of_mem _ (List.mem_append_right _ h)) (by decide +kernel))
set_option maxRecDepth 20000 in
theorem gX3_grantNext_X2_put : GoodIn wsX3_grantNext (wsV RX3 83 RX2 yX2_put wsX2_put) := goodIn_app (goodIn_of _ (by decide +kernel)) ggX3_grantNext_X2_put
theorem dX3_grantNext_0 : decode cX3_grantNext 0 = .ok (.aload_n 0, 1) := by decide +kernel
theorem dX3_grantNext_1 : decode cX3_grantNext 1 = .ok (.aload_n 0, 1) := by decide +kernel
theorem dX3_grantNext_2 : decode cX3_grantNext 2 = .ok (.getfield 125, 3) := by decide +kernel
theorem dX3_grantNext_5 : decode cX3_grantNext 5 = .ok (.invokevirtual 158, 3) := by decide +kernel
theorem dX3_grantNext_8 : decode cX3_grantNext 8 = .ok (.istore_n 1, 1) := by decide +kernel
theorem dX3_grantNext_9 : decode cX3_grantNext 9 = .ok (.iload_n 1, 1) := by decide +kernel
theorem dX3_grantNext_10 : decode cX3_grantNext 10 = .ok (.iconst (-1), 1) := by decide +kernel
theorem dX3_grantNext_11 : decode cX3_grantNext 11 = .ok (.if_icmp .ne 5, 3) := by decide +kernel
theorem dX3_grantNext_14 : decode cX3_grantNext 14 = .ok (.iconst 0, 1) := by decide +kernel
theorem dX3_grantNext_15 : decode cX3_grantNext 15 = .ok (.ireturn, 1) := by decide +kernel
theorem dX3_grantNext_16 : decode cX3_grantNext 16 = .ok (.bipush 10, 2) := by decide +kernel
theorem dX3_grantNext_18 : decode cX3_grantNext 18 = .ok (.aload_n 0, 1) := by decide +kernel
theorem dX3_grantNext_19 : decode cX3_grantNext 19 = .ok (.iload_n 1, 1) := by decide +kernel
theorem dX3_grantNext_20 : decode cX3_grantNext 20 = .ok (.invokevirtual 135, 3) := by decide +kernel
theorem dX3_grantNext_23 : decode cX3_grantNext 23 = .ok (.iadd, 1) := by decide +kernel
theorem dX3_grantNext_24 : decode cX3_grantNext 24 = .ok (.istore_n 2, 1) := by decide +kernel
theorem dX3_grantNext_25 : decode cX3_grantNext 25 = .ok (.aload_n 0, 1) := by decide +kernel
theorem dX3_grantNext_26 : decode cX3_grantNext 26 = .ok (.getfield 41, 3) := by decide +kernel
theorem dX3_grantNext_29 : decode cX3_grantNext 29 = .ok (.iload_n 2, 1) := by decide +kernel
theorem dX3_grantNext_30 : decode cX3_grantNext 30 = .ok (.if_icmp .ge 5, 3) := by decide +kernel
theorem dX3_grantNext_33 : decode cX3_grantNext 33 = .ok (.iconst 0, 1) := by decide +kernel
theorem dX3_grantNext_34 : decode cX3_grantNext 34 = .ok (.ireturn, 1) := by decide +kernel
theorem dX3_grantNext_35 : decode cX3_grantNext 35 = .ok (.aload_n 0, 1) := by decide +kernel
theorem dX3_grantNext_36 : decode cX3_grantNext 36 = .ok (.dup, 1) := by decide +kernel
theorem dX3_grantNext_37 : decode cX3_grantNext 37 = .ok (.getfield 41, 3) := by decide +kernel
theorem dX3_grantNext_40 : decode cX3_grantNext 40 = .ok (.iload_n 2, 1) := by decide +kernel
theorem dX3_grantNext_41 : decode cX3_grantNext 41 = .ok (.isub, 1) := by decide +kernel
theorem dX3_grantNext_42 : decode cX3_grantNext 42 = .ok (.putfield 41, 3) := by decide +kernel
theorem dX3_grantNext_45 : decode cX3_grantNext 45 = .ok (.aload_n 0, 1) := by decide +kernel
theorem dX3_grantNext_46 : decode cX3_grantNext 46 = .ok (.getfield 21, 3) := by decide +kernel
theorem dX3_grantNext_49 : decode cX3_grantNext 49 = .ok (.getfield 80, 3) := by decide +kernel
theorem dX3_grantNext_52 : decode cX3_grantNext 52 = .ok (.iload_n 1, 1) := by decide +kernel
theorem dX3_grantNext_53 : decode cX3_grantNext 53 = .ok (.iconst 1, 1) := by decide +kernel
theorem dX3_grantNext_54 : decode cX3_grantNext 54 = .ok (.invokevirtual 83, 3) := by decide +kernel
theorem dX3_grantNext_57 : decode cX3_grantNext 57 = .ok (.aload_n 0, 1) := by decide +kernel
theorem dX3_grantNext_58 : decode cX3_grantNext 58 = .ok (.getfield 21, 3) := by decide +kernel
theorem dX3_grantNext_61 : decode cX3_grantNext 61 = .ok (.getfield 161, 3) := by decide +kernel
theorem dX3_grantNext_64 : decode cX3_grantNext 64 = .ok (.iload_n 1, 1) := by decide +kernel
theorem dX3_grantNext_65 : decode cX3_grantNext 65 = .ok (.aload_n 0, 1) := by decide +kernel
theorem dX3_grantNext_66 : decode cX3_grantNext 66 = .ok (.getfield 118, 3) := by decide +kernel
theorem dX3_grantNext_69 : decode cX3_grantNext 69 = .ok (.invokevirtual 83, 3) := by decide +kernel
theorem dX3_grantNext_72 : decode cX3_grantNext 72 = .ok (.iconst 1, 1) := by decide +kernel
theorem dX3_grantNext_73 : decode cX3_grantNext 73 = .ok (.ireturn, 1) := by decide +kernel
set_option maxRecDepth 20000 in
theorem ggX3_takeOver_X0_takeOver : GoodIn wsX3_takeOver wsX0_takeOver := goodIn_r _ [14, 15, 16, 17, 18, 19, 20, 21, 22, 23, 24, 25, 26, 27, 28, 29, 30, 31, 32, 33, 34, 64, 65, 66, 67, 68, 69, 70] (by decide +kernel) (by decide +kernel)
set_option maxRecDepth 20000 in
theorem gX3_takeOver_X0_takeOver : GoodIn wsX3_takeOver (wsV RX3 164 RX0 yX0_takeOver wsX0_takeOver) := goodIn_app (goodIn_of _ (by decide +kernel)) ggX3_takeOver_X0_takeOver
set_option maxRecDepth 20000 in
theorem ggX3_takeOver_X4_takeOver : GoodIn wsX3_takeOver wsX4_takeOver := goodIn_r _ [39, 40, 41, 42, 43, 44, 45, 46, 22, 23, 24, 25, 26, 27, 28, 29, 30, 31, 32, 33, 34, 71, 72, 73, 74, 75, 76, 70] (by decide +kernel) (by decide +kernel)
set_option maxRecDepth 20000 in
theorem gX3_takeOver_X4_takeOver : GoodIn wsX3_takeOver (wsV RX3 168 RX4 yX4_takeOver wsX4_takeOver) := goodIn_app (goodIn_of _ (by decide +kernel)) ggX3_takeOver_X4_takeOver
set_option maxRecDepth 20000 in
theorem ggX3_takeOver_X1_takeOver : GoodIn wsX3_takeOver wsX1_takeOver := goodIn_r _ [51, 52, 53, 22, 23, 24, 25, 26, 27, 28, 29, 30, 31, 32, 33, 34, 77, 70] (by decide +kernel) (by decide +kernel)
set_option maxRecDepth 20000 in
theorem gX3_takeOver_X1_takeOver : GoodIn wsX3_takeOver (wsV RX3 171 RX1 yX1_takeOver wsX1_takeOver) := goodIn_app (goodIn_of _ (by decide +kernel)) ggX3_takeOver_X1_takeOver
set_option maxRecDepth 20000 in
theorem ggX3_takeOver_X2_takeOver : GoodIn wsX3_takeOver wsX2_takeOver := goodIn_r _ [25, 26, 27, 28, 29, 30, 31, 32, 33, 34, 70] (by decide +kernel) (by decide +kernel)
set_option maxRecDepth 20000 in
theorem gX3_takeOver_X2_takeOver : GoodIn wsX3_takeOver (wsV RX3 174 RX2 yX2_takeOver wsX2_takeOver) := goodIn_app (goodIn_of _ (by decide +kernel)) ggX3_takeOver_X2_takeOver
theorem dX3_takeOver_0 : decode cX3_takeOver 0 = .ok (.aload_n 0, 1) := by decide +kernel
theorem dX3_takeOver_1 : decode cX3_takeOver 1 = .ok (.getfield 12, 3) := by decide +kernel
theorem dX3_takeOver_4 : decode cX3_takeOver 4 = .ok (.aload_n 1, 1) := by decide +kernel
theorem dX3_takeOver_5 : decode cX3_takeOver 5 = .ok (.getfield 12, 3) := by decide +kernel
theorem dX3_takeOver_8 : decode cX3_takeOver 8 = .ok (.invokevirtual 164, 3) := by decide +kernel
theorem dX3_takeOver_11 : decode cX3_takeOver 11 = .ok (.aload_n 0, 1) := by decide +kernel
theorem dX3_takeOver_12 : decode cX3_takeOver 12 = .ok (.getfield 21, 3) := by decide +kernel
theorem dX3_takeOver_15 : decode cX3_takeOver 15 = .ok (.aload_n 1, 1) := by decide +kernel
theorem dX3_takeOver_16 : decode cX3_takeOver 16 = .ok (.getfield 21, 3) := by decide +kernel
theorem dX3_takeOver_19 : decode cX3_takeOver 19 = .ok (.invokevirtual 168, 3) := by decide +kernel
theorem dX3_takeOver_22 : decode cX3_takeOver 22 = .ok (.aload_n 0, 1) := by decide +kernel
theorem dX3_takeOver_23 : decode cX3_takeOver 23 = .ok (.getfield 28, 3) := by decide +kernel
theorem dX3_takeOver_26 : decode cX3_takeOver 26 = .ok (.aload_n 1, 1) := by decide +kernel
theorem dX3_takeOver_27 : decode cX3_takeOver 27 = .ok (.getfield 28, 3) := by decide +kernel
theorem dX3_takeOver_30 : decode cX3_takeOver 30 = .ok (.invokevirtual 171, 3) := by decide +kernel
theorem dX3_takeOver_33 : decode cX3_takeOver 33 = .ok (.aload_n 0, 1) := by decide +kernel
theorem dX3_takeOver_34 : decode cX3_takeOver 34 = .ok (.getfield 37, 3) := by decide +kernel
theorem dX3_takeOver_37 : decode cX3_takeOver 37 = .ok (.aload_n 1, 1) := by decide +kernel
theorem dX3_takeOver_38 : decode cX3_takeOver 38 = .ok (.getfield 37, 3) := by decide +kernel
theorem dX3_takeOver_41 : decode cX3_takeOver 41 = .ok (.invokevirtual 174, 3) := by decide +kernel
theorem dX3_takeOver_44 : decode cX3_takeOver 44 = .ok (.aload_n 0, 1) := by decide +kernel
theorem dX3_takeOver_45 : decode cX3_takeOver 45 = .ok (.aload_n 1, 1) := by decide +kernel
theorem dX3_takeOver_46 : decode cX3_takeOver 46 = .ok (.getfield 118, 3) := by decide +kernel
theorem dX3_takeOver_49 : decode cX3_takeOver 49 = .ok (.putfield 118, 3) := by decide +kernel
theorem dX3_takeOver_52 : decode cX3_takeOver 52 = .ok (.aload_n 0, 1) := by decide +kernel
theorem dX3_takeOver_53 : decode cX3_takeOver 53 = .ok (.aload_n 1, 1) := by decide +kernel
theorem dX3_takeOver_54 : decode cX3_takeOver 54 = .ok (.getfield 41, 3) := by decide +kernel
theorem dX3_takeOver_57 : decode cX3_takeOver 57 = .ok (.putfield 41, 3) := by decide +kernel
theorem dX3_takeOver_60 : decode cX3_takeOver 60 = .ok (.aload_n 0, 1) := by decide +kernel
theorem dX3_takeOver_61 : decode cX3_takeOver 61 = .ok (.aload_n 1, 1) := by decide +kernel
theorem dX3_takeOver_62 : decode cX3_takeOver 62 = .ok (.getfield 125, 3) := by decide +kernel
theorem dX3_takeOver_65 : decode cX3_takeOver 65 = .ok (.putfield 125, 3) := by decide +kernel
theorem dX3_takeOver_68 : decode cX3_takeOver 68 = .ok (.aload_n 0, 1) := by decide +kernel
theorem dX3_takeOver_69 : decode cX3_takeOver 69 = .ok (.aload_n 1, 1) := by decide +kernel
theorem dX3_takeOver_70 : decode cX3_takeOver 70 = .ok (.getfield 103, 3) := by decide +kernel
theorem dX3_takeOver_73 : decode cX3_takeOver 73 = .ok (.putfield 103, 3) := by decide +kernel
theorem dX3_takeOver_76 : decode cX3_takeOver 76 = .ok (.aload_n 0, 1) := by decide +kernel
theorem dX3_takeOver_77 : decode cX3_takeOver 77 = .ok (.aload_n 1, 1) := by decide +kernel
theorem dX3_takeOver_78 : decode cX3_takeOver 78 = .ok (.getfield 92, 3) := by decide +kernel
theorem dX3_takeOver_81 : decode cX3_takeOver 81 = .ok (.putfield 92, 3) := by decide +kernel
theorem dX3_takeOver_84 : decode cX3_takeOver 84 = .ok (.return_, 1) := by decide +kernel
set_option maxRecDepth 20000 in
theorem ggX4_init_X2_init : GoodIn wsX4_init wsX2_init := goodIn_r _ [14, 15, 2, 3, 16, 17, 18] (by decide +kernel) (by decide +kernel)
set_option maxRecDepth 20000 in
theorem gX4_init_X2_init : GoodIn wsX4_init (wsX2_init) := ggX4_init_X2_init
theorem dX4_init_0 : decode cX4_init 0 = .ok (.aload_n 0, 1) := by decide +kernel
theorem dX4_init_1 : decode cX4_init 1 = .ok (.invokespecial 3, 3) := by decide +kernel
theorem dX4_init_4 : decode cX4_init 4 = .ok (.aload_n 0, 1) := by decide +kernel
theorem dX4_init_5 : decode cX4_init 5 = .ok (.new 9, 3) := by decide +kernel
theorem dX4_init_8 : decode cX4_init 8 = .ok (.dup, 1) := by decide +kernel
theorem dX4_init_9 : decode cX4_init 9 = .ok (.bipush 24, 2) := by decide +kernel
theorem dX4_init_11 : decode cX4_init 11 = .ok (.invokespecial 11, 3) := by decide +kernel
theorem dX4_init_14 : decode cX4_init 14 = .ok (.putfield 14, 3) := by decide +kernel
theorem dX4_init_17 : decode cX4_init 17 = .ok (.aload_n 0, 1) := by decide +kernel
theorem dX4_init_18 : decode cX4_init 18 = .ok (.new 9, 3) := by decide +kernel
theorem dX4_init_21 : decode cX4_init 21 = .ok (.dup, 1) := by decide +kernel
theorem dX4_init_22 : decode cX4_init 22 = .ok (.bipush 24, 2) := by decide +kernel
theorem dX4_init_24 : decode cX4_init 24 = .ok (.invokespecial 11, 3) := by decide +kernel
theorem dX4_init_27 : decode cX4_init 27 = .ok (.putfield 20, 3) := by decide +kernel
theorem dX4_init_30 : decode cX4_init 30 = .ok (.aload_n 0, 1) := by decide +kernel
theorem dX4_init_31 : decode cX4_init 31 = .ok (.new 9, 3) := by decide +kernel
theorem dX4_init_34 : decode cX4_init 34 = .ok (.dup, 1) := by decide +kernel
theorem dX4_init_35 : decode cX4_init 35 = .ok (.bipush 24, 2) := by decide +kernel
theorem dX4_init_37 : decode cX4_init 37 = .ok (.invokespecial 11, 3) := by decide +kernel
theorem dX4_init_40 : decode cX4_init 40 = .ok (.putfield 23, 3) := by decide +kernel
theorem dX4_init_43 : decode cX4_init 43 = .ok (.aload_n 0, 1) := by decide +kernel
theorem dX4_init_44 : decode cX4_init 44 = .ok (.new 9, 3) := by decide +kernel
theorem dX4_init_47 : decode cX4_init 47 = .ok (.dup, 1) := by decide +kernel
theorem dX4_init_48 : decode cX4_init 48 = .ok (.bipush 24, 2) := by decide +kernel
theorem dX4_init_50 : decode cX4_init 50 = .ok (.invokespecial 11, 3) := by decide +kernel
theorem dX4_init_53 : decode cX4_init 53 = .ok (.putfield 26, 3) := by decide +kernel
theorem dX4_init_56 : decode cX4_init 56 = .ok (.aload_n 0, 1) := by decide +kernel
theorem dX4_init_57 : decode cX4_init 57 = .ok (.new 9, 3) := by decide +kernel
theorem dX4_init_60 : decode cX4_init 60 = .ok (.dup, 1) := by decide +kernel
theorem dX4_init_61 : decode cX4_init 61 = .ok (.bipush 24, 2) := by decide +kernel
theorem dX4_init_63 : decode cX4_init 63 = .ok (.invokespecial 11, 3) := by decide +kernel
theorem dX4_init_66 : decode cX4_init 66 = .ok (.putfield 29, 3) := by decide +kernel
theorem dX4_init_69 : decode cX4_init 69 = .ok (.return_, 1) := by decide +kernel
theorem dX4_has_0 : decode cX4_has 0 = .ok (.iload_n 1, 1) := by decide +kernel
theorem dX4_has_1 : decode cX4_has 1 = .ok (.ifCond .lt 15, 3) := by decide +kernel
theorem dX4_has_4 : decode cX4_has 4 = .ok (.iload_n 1, 1) := by decide +kernel
theorem dX4_has_5 : decode cX4_has 5 = .ok (.aload_n 0, 1) := by decide +kernel
theorem dX4_has_6 : decode cX4_has 6 = .ok (.getfield 32, 3) := by decide +kernel
theorem dX4_has_9 : decode cX4_has 9 = .ok (.if_icmp .ge 7, 3) := by decide +kernel
theorem dX4_has_12 : decode cX4_has 12 = .ok (.iconst 1, 1) := by decide +kernel
theorem dX4_has_13 : decode cX4_has 13 = .ok (.goto 4, 3) := by decide +kernel
theorem dX4_has_16 : decode cX4_has 16 = .ok (.iconst 0, 1) := by decide +kernel
theorem dX4_has_17 : decode cX4_has 17 = .ok (.ireturn, 1) := by decide +kernel
set_option maxRecDepth 20000 in
theorem ggX4_tell_X2_put : GoodIn wsX4_tell wsX2_put := goodIn_ca (goodIn_r _ [11, 12, 19] (by decide +kernel) (by decide +kernel)) (goodIn_sub (fun _ h => List.mem_cons_of_mem _ (List.mem_append_right _ h)) (by decide +kernel))
set_option maxRecDepth 20000 in
theorem gX4_tell_X2_put : GoodIn wsX4_tell (wsV RX4 36 RX2 yX2_put wsX2_put) := goodIn_app (goodIn_of _ (by decide +kernel)) ggX4_tell_X2_put
theorem dX4_tell_0 : decode cX4_tell 0 = .ok (.aload_n 0, 1) := by decide +kernel
theorem dX4_tell_1 : decode cX4_tell 1 = .ok (.getfield 32, 3) := by decide +kernel
theorem dX4_tell_4 : decode cX4_tell 4 = .ok (.istore 4, 2) := by decide +kernel
theorem dX4_tell_6 : decode cX4_tell 6 = .ok (.aload_n 0, 1) := by decide +kernel
theorem dX4_tell_7 : decode cX4_tell 7 = .ok (.getfield 14, 3) := by decide +kernel
theorem dX4_tell_10 : decode cX4_tell 10 = .ok (.iload 4, 2) := by decide +kernel
theorem dX4_tell_12 : decode cX4_tell 12 = .ok (.iload_n 1, 1) := by decide +kernel
theorem dX4_tell_13 : decode cX4_tell 13 = .ok (.invokevirtual 36, 3) := by decide +kernel
theorem dX4_tell_16 : decode cX4_tell 16 = .ok (.aload_n 0, 1) := by decide +kernel
theorem dX4_tell_17 : decode cX4_tell 17 = .ok (.getfield 20, 3) := by decide +kernel
theorem dX4_tell_20 : decode cX4_tell 20 = .ok (.iload 4, 2) := by decide +kernel
theorem dX4_tell_22 : decode cX4_tell 22 = .ok (.iload_n 2, 1) := by decide +kernel
theorem dX4_tell_23 : decode cX4_tell 23 = .ok (.invokevirtual 36, 3) := by decide +kernel
theorem dX4_tell_26 : decode cX4_tell 26 = .ok (.aload_n 0, 1) := by decide +kernel
theorem dX4_tell_27 : decode cX4_tell 27 = .ok (.getfield 23, 3) := by decide +kernel
theorem dX4_tell_30 : decode cX4_tell 30 = .ok (.iload 4, 2) := by decide +kernel
theorem dX4_tell_32 : decode cX4_tell 32 = .ok (.iload_n 3, 1) := by decide +kernel
theorem dX4_tell_33 : decode cX4_tell 33 = .ok (.invokevirtual 36, 3) := by decide +kernel
theorem dX4_tell_36 : decode cX4_tell 36 = .ok (.aload_n 0, 1) := by decide +kernel
theorem dX4_tell_37 : decode cX4_tell 37 = .ok (.getfield 26, 3) := by decide +kernel
theorem dX4_tell_40 : decode cX4_tell 40 = .ok (.iload 4, 2) := by decide +kernel
theorem dX4_tell_42 : decode cX4_tell 42 = .ok (.iconst 0, 1) := by decide +kernel
theorem dX4_tell_43 : decode cX4_tell 43 = .ok (.invokevirtual 36, 3) := by decide +kernel
theorem dX4_tell_46 : decode cX4_tell 46 = .ok (.aload_n 0, 1) := by decide +kernel
theorem dX4_tell_47 : decode cX4_tell 47 = .ok (.getfield 29, 3) := by decide +kernel
theorem dX4_tell_50 : decode cX4_tell 50 = .ok (.iload 4, 2) := by decide +kernel
theorem dX4_tell_52 : decode cX4_tell 52 = .ok (.iconst (-1), 1) := by decide +kernel
theorem dX4_tell_53 : decode cX4_tell 53 = .ok (.invokevirtual 36, 3) := by decide +kernel
theorem dX4_tell_56 : decode cX4_tell 56 = .ok (.aload_n 0, 1) := by decide +kernel
theorem dX4_tell_57 : decode cX4_tell 57 = .ok (.iload 4, 2) := by decide +kernel
theorem dX4_tell_59 : decode cX4_tell 59 = .ok (.iconst 1, 1) := by decide +kernel
theorem dX4_tell_60 : decode cX4_tell 60 = .ok (.iadd, 1) := by decide +kernel
theorem dX4_tell_61 : decode cX4_tell 61 = .ok (.putfield 32, 3) := by decide +kernel
theorem dX4_tell_64 : decode cX4_tell 64 = .ok (.iload 4, 2) := by decide +kernel
theorem dX4_tell_66 : decode cX4_tell 66 = .ok (.ireturn, 1) := by decide +kernel
set_option maxRecDepth 20000 in
theorem ggX4_waitsFor_X2_at : GoodIn wsX4_waitsFor wsX2_at := goodIn_ca (goodIn_r _ [7, 8, 15] (by decide +kernel) (by decide +kernel)) (goodIn_sub (fun _ h => List.mem_cons_of_mem _ (List.mem_append_right _ h)) (by decide +kernel))
set_option maxRecDepth 20000 in
theorem gX4_waitsFor_X2_at : GoodIn wsX4_waitsFor (wsV RX4 40 RX2 yX2_at wsX2_at) := goodIn_app (goodIn_of _ (by decide +kernel)) ggX4_waitsFor_X2_at
theorem dX4_waitsFor_0 : decode cX4_waitsFor 0 = .ok (.aload_n 0, 1) := by decide +kernel
theorem dX4_waitsFor_1 : decode cX4_waitsFor 1 = .ok (.getfield 26, 3) := by decide +kernel
theorem dX4_waitsFor_4 : decode cX4_waitsFor 4 = .ok (.iload_n 1, 1) := by decide +kernel
theorem dX4_waitsFor_5 : decode cX4_waitsFor 5 = .ok (.invokevirtual 40, 3) := by decide +kernel
theorem dX4_waitsFor_8 : decode cX4_waitsFor 8 = .ok (.ifCond .ne 19, 3) := by decide +kernel
theorem dX4_waitsFor_11 : decode cX4_waitsFor 11 = .ok (.aload_n 0, 1) := by decide +kernel
theorem dX4_waitsFor_12 : decode cX4_waitsFor 12 = .ok (.getfield 14, 3) := by decide +kernel
theorem dX4_waitsFor_15 : decode cX4_waitsFor 15 = .ok (.iload_n 1, 1) := by decide +kernel
theorem dX4_waitsFor_16 : decode cX4_waitsFor 16 = .ok (.invokevirtual 40, 3) := by decide +kernel
theorem dX4_waitsFor_19 : decode cX4_waitsFor 19 = .ok (.iload_n 2, 1) := by decide +kernel
theorem dX4_waitsFor_20 : decode cX4_waitsFor 20 = .ok (.if_icmp .ne 7, 3) := by decide +kernel
theorem dX4_waitsFor_23 : decode cX4_waitsFor 23 = .ok (.iconst 1, 1) := by decide +kernel
theorem dX4_waitsFor_24 : decode cX4_waitsFor 24 = .ok (.goto 4, 3) := by decide +kernel
theorem dX4_waitsFor_27 : decode cX4_waitsFor 27 = .ok (.iconst 0, 1) := by decide +kernel
theorem dX4_waitsFor_28 : decode cX4_waitsFor 28 = .ok (.ireturn, 1) := by decide +kernel
set_option maxRecDepth 20000 in
theorem ggX4_howMany_X2_at : GoodIn wsX4_howMany wsX2_at := goodIn_ca (goodIn_r _ [7, 8, 15] (by decide +kernel) (by decide +kernel)) (goodIn_sub (fun _ h => List.mem_cons_of_mem _ (List.mem_append_right _ h)) (by decide +kernel))
set_option maxRecDepth 20000 in
theorem gX4_howMany_X2_at : GoodIn wsX4_howMany (wsV RX4 40 RX2 yX2_at wsX2_at) := goodIn_app (goodIn_of _ (by decide +kernel)) ggX4_howMany_X2_at
theorem dX4_howMany_0 : decode cX4_howMany 0 = .ok (.iconst 0, 1) := by decide +kernel
theorem dX4_howMany_1 : decode cX4_howMany 1 = .ok (.istore_n 2, 1) := by decide +kernel
theorem dX4_howMany_2 : decode cX4_howMany 2 = .ok (.iconst 0, 1) := by decide +kernel
theorem dX4_howMany_3 : decode cX4_howMany 3 = .ok (.istore_n 3, 1) := by decide +kernel
theorem dX4_howMany_4 : decode cX4_howMany 4 = .ok (.iload_n 3, 1) := by decide +kernel
theorem dX4_howMany_5 : decode cX4_howMany 5 = .ok (.aload_n 0, 1) := by decide +kernel
theorem dX4_howMany_6 : decode cX4_howMany 6 = .ok (.getfield 32, 3) := by decide +kernel
theorem dX4_howMany_9 : decode cX4_howMany 9 = .ok (.if_icmp .ge 24, 3) := by decide +kernel
theorem dX4_howMany_12 : decode cX4_howMany 12 = .ok (.aload_n 0, 1) := by decide +kernel
theorem dX4_howMany_13 : decode cX4_howMany 13 = .ok (.getfield 26, 3) := by decide +kernel
theorem dX4_howMany_16 : decode cX4_howMany 16 = .ok (.iload_n 3, 1) := by decide +kernel
theorem dX4_howMany_17 : decode cX4_howMany 17 = .ok (.invokevirtual 40, 3) := by decide +kernel
theorem dX4_howMany_20 : decode cX4_howMany 20 = .ok (.iload_n 1, 1) := by decide +kernel
theorem dX4_howMany_21 : decode cX4_howMany 21 = .ok (.if_icmp .ne 6, 3) := by decide +kernel
theorem dX4_howMany_24 : decode cX4_howMany 24 = .ok (.iinc 2 1, 3) := by decide +kernel
theorem dX4_howMany_27 : decode cX4_howMany 27 = .ok (.iinc 3 1, 3) := by decide +kernel
theorem dX4_howMany_30 : decode cX4_howMany 30 = .ok (.goto (-26), 3) := by decide +kernel
theorem dX4_howMany_33 : decode cX4_howMany 33 = .ok (.iload_n 2, 1) := by decide +kernel
theorem dX4_howMany_34 : decode cX4_howMany 34 = .ok (.ireturn, 1) := by decide +kernel
set_option maxRecDepth 20000 in
theorem ggX4_meanWait_X2_at : GoodIn wsX4_meanWait wsX2_at := goodIn_ca (goodIn_r _ [9, 10, 17] (by decide +kernel) (by decide +kernel)) (goodIn_sub (fun _ h => List.mem_cons_of_mem _ (List.mem_append_right _ h)) (by decide +kernel))
set_option maxRecDepth 20000 in
theorem gX4_meanWait_X2_at : GoodIn wsX4_meanWait (wsV RX4 40 RX2 yX2_at wsX2_at) := goodIn_app (goodIn_of _ (by decide +kernel)) ggX4_meanWait_X2_at
theorem dX4_meanWait_0 : decode cX4_meanWait 0 = .ok (.iconst 0, 1) := by decide +kernel
theorem dX4_meanWait_1 : decode cX4_meanWait 1 = .ok (.istore_n 1, 1) := by decide +kernel
theorem dX4_meanWait_2 : decode cX4_meanWait 2 = .ok (.iconst 0, 1) := by decide +kernel
theorem dX4_meanWait_3 : decode cX4_meanWait 3 = .ok (.istore_n 2, 1) := by decide +kernel
theorem dX4_meanWait_4 : decode cX4_meanWait 4 = .ok (.iconst 0, 1) := by decide +kernel
theorem dX4_meanWait_5 : decode cX4_meanWait 5 = .ok (.istore_n 3, 1) := by decide +kernel
theorem dX4_meanWait_6 : decode cX4_meanWait 6 = .ok (.iload_n 3, 1) := by decide +kernel
theorem dX4_meanWait_7 : decode cX4_meanWait 7 = .ok (.aload_n 0, 1) := by decide +kernel
theorem dX4_meanWait_8 : decode cX4_meanWait 8 = .ok (.getfield 32, 3) := by decide +kernel
theorem dX4_meanWait_11 : decode cX4_meanWait 11 = .ok (.if_icmp .ge 44, 3) := by decide +kernel
theorem dX4_meanWait_14 : decode cX4_meanWait 14 = .ok (.aload_n 0, 1) := by decide +kernel
theorem dX4_meanWait_15 : decode cX4_meanWait 15 = .ok (.getfield 26, 3) := by decide +kernel
theorem dX4_meanWait_18 : decode cX4_meanWait 18 = .ok (.iload_n 3, 1) := by decide +kernel
theorem dX4_meanWait_19 : decode cX4_meanWait 19 = .ok (.invokevirtual 40, 3) := by decide +kernel
theorem dX4_meanWait_22 : decode cX4_meanWait 22 = .ok (.iconst 1, 1) := by decide +kernel
theorem dX4_meanWait_23 : decode cX4_meanWait 23 = .ok (.if_icmp .ne 26, 3) := by decide +kernel
theorem dX4_meanWait_26 : decode cX4_meanWait 26 = .ok (.iinc 1 1, 3) := by decide +kernel
theorem dX4_meanWait_29 : decode cX4_meanWait 29 = .ok (.iload_n 2, 1) := by decide +kernel
theorem dX4_meanWait_30 : decode cX4_meanWait 30 = .ok (.aload_n 0, 1) := by decide +kernel
theorem dX4_meanWait_31 : decode cX4_meanWait 31 = .ok (.getfield 29, 3) := by decide +kernel
theorem dX4_meanWait_34 : decode cX4_meanWait 34 = .ok (.iload_n 3, 1) := by decide +kernel
theorem dX4_meanWait_35 : decode cX4_meanWait 35 = .ok (.invokevirtual 40, 3) := by decide +kernel
theorem dX4_meanWait_38 : decode cX4_meanWait 38 = .ok (.aload_n 0, 1) := by decide +kernel
theorem dX4_meanWait_39 : decode cX4_meanWait 39 = .ok (.getfield 23, 3) := by decide +kernel
theorem dX4_meanWait_42 : decode cX4_meanWait 42 = .ok (.iload_n 3, 1) := by decide +kernel
theorem dX4_meanWait_43 : decode cX4_meanWait 43 = .ok (.invokevirtual 40, 3) := by decide +kernel
theorem dX4_meanWait_46 : decode cX4_meanWait 46 = .ok (.isub, 1) := by decide +kernel
theorem dX4_meanWait_47 : decode cX4_meanWait 47 = .ok (.iadd, 1) := by decide +kernel
theorem dX4_meanWait_48 : decode cX4_meanWait 48 = .ok (.istore_n 2, 1) := by decide +kernel
theorem dX4_meanWait_49 : decode cX4_meanWait 49 = .ok (.iinc 3 1, 3) := by decide +kernel
theorem dX4_meanWait_52 : decode cX4_meanWait 52 = .ok (.goto (-46), 3) := by decide +kernel
theorem dX4_meanWait_55 : decode cX4_meanWait 55 = .ok (.iload_n 1, 1) := by decide +kernel
theorem dX4_meanWait_56 : decode cX4_meanWait 56 = .ok (.ifCond .ne 7, 3) := by decide +kernel
theorem dX4_meanWait_59 : decode cX4_meanWait 59 = .ok (.dconst 0, 1) := by decide +kernel
theorem dX4_meanWait_60 : decode cX4_meanWait 60 = .ok (.goto 8, 3) := by decide +kernel
theorem dX4_meanWait_63 : decode cX4_meanWait 63 = .ok (.iload_n 2, 1) := by decide +kernel
theorem dX4_meanWait_64 : decode cX4_meanWait 64 = .ok (.i2d, 1) := by decide +kernel
theorem dX4_meanWait_65 : decode cX4_meanWait 65 = .ok (.iload_n 1, 1) := by decide +kernel
theorem dX4_meanWait_66 : decode cX4_meanWait 66 = .ok (.i2d, 1) := by decide +kernel
theorem dX4_meanWait_67 : decode cX4_meanWait 67 = .ok (.ddiv, 1) := by decide +kernel
theorem dX4_meanWait_68 : decode cX4_meanWait 68 = .ok (.dreturn, 1) := by decide +kernel
set_option maxRecDepth 20000 in
theorem ggX4_figure_X2_at : GoodIn wsX4_figure wsX2_at := goodIn_ca (goodIn_r _ [10, 11, 18] (by decide +kernel) (by decide +kernel)) (goodIn_sub (fun _ h => List.mem_cons_of_mem _ (List.mem_append_right _ h)) (by decide +kernel))
set_option maxRecDepth 20000 in
theorem gX4_figure_X2_at : GoodIn wsX4_figure (wsV RX4 40 RX2 yX2_at wsX2_at) := goodIn_app (goodIn_of _ (by decide +kernel)) ggX4_figure_X2_at
theorem dX4_figure_0 : decode cX4_figure 0 = .ok (.iload_n 2, 1) := by decide +kernel
theorem dX4_figure_1 : decode cX4_figure 1 = .ok (.tableswitch 67 0 3 #[31, 40, 49, 58], 31) := by decide +kernel
theorem dX4_figure_32 : decode cX4_figure 32 = .ok (.aload_n 0, 1) := by decide +kernel
theorem dX4_figure_33 : decode cX4_figure 33 = .ok (.getfield 14, 3) := by decide +kernel
theorem dX4_figure_36 : decode cX4_figure 36 = .ok (.iload_n 1, 1) := by decide +kernel
theorem dX4_figure_37 : decode cX4_figure 37 = .ok (.invokevirtual 40, 3) := by decide +kernel
theorem dX4_figure_40 : decode cX4_figure 40 = .ok (.ireturn, 1) := by decide +kernel
theorem dX4_figure_41 : decode cX4_figure 41 = .ok (.aload_n 0, 1) := by decide +kernel
theorem dX4_figure_42 : decode cX4_figure 42 = .ok (.getfield 20, 3) := by decide +kernel
theorem dX4_figure_45 : decode cX4_figure 45 = .ok (.iload_n 1, 1) := by decide +kernel
theorem dX4_figure_46 : decode cX4_figure 46 = .ok (.invokevirtual 40, 3) := by decide +kernel
theorem dX4_figure_49 : decode cX4_figure 49 = .ok (.ireturn, 1) := by decide +kernel
theorem dX4_figure_50 : decode cX4_figure 50 = .ok (.aload_n 0, 1) := by decide +kernel
theorem dX4_figure_51 : decode cX4_figure 51 = .ok (.getfield 23, 3) := by decide +kernel
theorem dX4_figure_54 : decode cX4_figure 54 = .ok (.iload_n 1, 1) := by decide +kernel
theorem dX4_figure_55 : decode cX4_figure 55 = .ok (.invokevirtual 40, 3) := by decide +kernel
theorem dX4_figure_58 : decode cX4_figure 58 = .ok (.ireturn, 1) := by decide +kernel
theorem dX4_figure_59 : decode cX4_figure 59 = .ok (.aload_n 0, 1) := by decide +kernel
theorem dX4_figure_60 : decode cX4_figure 60 = .ok (.getfield 26, 3) := by decide +kernel
theorem dX4_figure_63 : decode cX4_figure 63 = .ok (.iload_n 1, 1) := by decide +kernel
theorem dX4_figure_64 : decode cX4_figure 64 = .ok (.invokevirtual 40, 3) := by decide +kernel
theorem dX4_figure_67 : decode cX4_figure 67 = .ok (.ireturn, 1) := by decide +kernel
theorem dX4_figure_68 : decode cX4_figure 68 = .ok (.aload_n 0, 1) := by decide +kernel
theorem dX4_figure_69 : decode cX4_figure 69 = .ok (.getfield 29, 3) := by decide +kernel
theorem dX4_figure_72 : decode cX4_figure 72 = .ok (.iload_n 1, 1) := by decide +kernel
theorem dX4_figure_73 : decode cX4_figure 73 = .ok (.invokevirtual 40, 3) := by decide +kernel
theorem dX4_figure_76 : decode cX4_figure 76 = .ok (.ireturn, 1) := by decide +kernel
set_option maxRecDepth 20000 in
theorem ggX4_takeOver_X2_takeOver : GoodIn wsX4_takeOver wsX2_takeOver := goodIn_r _ [11, 12, 13, 14, 15, 16, 17, 18, 19, 20, 27] (by decide +kernel) (by decide +kernel)
set_option maxRecDepth 20000 in
theorem gX4_takeOver_X2_takeOver : GoodIn wsX4_takeOver (wsV RX4 44 RX2 yX2_takeOver wsX2_takeOver) := goodIn_app (goodIn_of _ (by decide +kernel)) ggX4_takeOver_X2_takeOver
theorem dX4_takeOver_0 : decode cX4_takeOver 0 = .ok (.aload_n 0, 1) := by decide +kernel
theorem dX4_takeOver_1 : decode cX4_takeOver 1 = .ok (.getfield 14, 3) := by decide +kernel
theorem dX4_takeOver_4 : decode cX4_takeOver 4 = .ok (.aload_n 1, 1) := by decide +kernel
theorem dX4_takeOver_5 : decode cX4_takeOver 5 = .ok (.getfield 14, 3) := by decide +kernel
theorem dX4_takeOver_8 : decode cX4_takeOver 8 = .ok (.invokevirtual 44, 3) := by decide +kernel
theorem dX4_takeOver_11 : decode cX4_takeOver 11 = .ok (.aload_n 0, 1) := by decide +kernel
theorem dX4_takeOver_12 : decode cX4_takeOver 12 = .ok (.getfield 20, 3) := by decide +kernel
theorem dX4_takeOver_15 : decode cX4_takeOver 15 = .ok (.aload_n 1, 1) := by decide +kernel
theorem dX4_takeOver_16 : decode cX4_takeOver 16 = .ok (.getfield 20, 3) := by decide +kernel
theorem dX4_takeOver_19 : decode cX4_takeOver 19 = .ok (.invokevirtual 44, 3) := by decide +kernel
theorem dX4_takeOver_22 : decode cX4_takeOver 22 = .ok (.aload_n 0, 1) := by decide +kernel
theorem dX4_takeOver_23 : decode cX4_takeOver 23 = .ok (.getfield 23, 3) := by decide +kernel
theorem dX4_takeOver_26 : decode cX4_takeOver 26 = .ok (.aload_n 1, 1) := by decide +kernel
theorem dX4_takeOver_27 : decode cX4_takeOver 27 = .ok (.getfield 23, 3) := by decide +kernel
theorem dX4_takeOver_30 : decode cX4_takeOver 30 = .ok (.invokevirtual 44, 3) := by decide +kernel
theorem dX4_takeOver_33 : decode cX4_takeOver 33 = .ok (.aload_n 0, 1) := by decide +kernel
theorem dX4_takeOver_34 : decode cX4_takeOver 34 = .ok (.getfield 26, 3) := by decide +kernel
theorem dX4_takeOver_37 : decode cX4_takeOver 37 = .ok (.aload_n 1, 1) := by decide +kernel
theorem dX4_takeOver_38 : decode cX4_takeOver 38 = .ok (.getfield 26, 3) := by decide +kernel
theorem dX4_takeOver_41 : decode cX4_takeOver 41 = .ok (.invokevirtual 44, 3) := by decide +kernel
theorem dX4_takeOver_44 : decode cX4_takeOver 44 = .ok (.aload_n 0, 1) := by decide +kernel
theorem dX4_takeOver_45 : decode cX4_takeOver 45 = .ok (.getfield 29, 3) := by decide +kernel
theorem dX4_takeOver_48 : decode cX4_takeOver 48 = .ok (.aload_n 1, 1) := by decide +kernel
theorem dX4_takeOver_49 : decode cX4_takeOver 49 = .ok (.getfield 29, 3) := by decide +kernel
theorem dX4_takeOver_52 : decode cX4_takeOver 52 = .ok (.invokevirtual 44, 3) := by decide +kernel
theorem dX4_takeOver_55 : decode cX4_takeOver 55 = .ok (.aload_n 0, 1) := by decide +kernel
theorem dX4_takeOver_56 : decode cX4_takeOver 56 = .ok (.aload_n 1, 1) := by decide +kernel
theorem dX4_takeOver_57 : decode cX4_takeOver 57 = .ok (.getfield 32, 3) := by decide +kernel
theorem dX4_takeOver_60 : decode cX4_takeOver 60 = .ok (.putfield 32, 3) := by decide +kernel
theorem dX4_takeOver_63 : decode cX4_takeOver 63 = .ok (.return_, 1) := by decide +kernel
set_option maxRecDepth 20000 in
theorem ggX5_init_X3_init : GoodIn wsX5_init wsX3_init := goodIn_r _ [14, 15, 2, 3, 16, 17, 18, 19, 20, 21, 22, 23, 24, 25, 26, 27, 28, 10, 11, 29, 30, 31, 32, 33, 34, 35, 36, 37, 38, 39, 40, 41, 42, 43, 44, 45, 46, 47, 48, 49, 50, 51, 52, 53, 54, 55, 56, 57, 58, 59, 60, 61, 62, 77, 78, 79, 80, 81, 82, 64, 65, 66, 67, 68, 69, 70, 71, 72, 83, 84, 85, 86, 87, 88, 89, 76] (by decide +kernel) (by decide +kernel)
set_option maxRecDepth 20000 in
theorem gX5_init_X3_init_n9 : GoodIn wsX5_init (wsX3_init) := ggX5_init_X3_init
set_option maxRecDepth 20000 in
theorem ggX5_init_X2_init : GoodIn wsX5_init wsX2_init := goodIn_r _ [42, 43, 2, 3, 44, 45, 76] (by decide +kernel) (by decide +kernel)
set_option maxRecDepth 20000 in
theorem gX5_init_X2_init : GoodIn wsX5_init (wsX2_init) := ggX5_init_X2_init
theorem dX5_init_0 : decode cX5_init 0 = .ok (.aload_n 0, 1) := by decide +kernel
theorem dX5_init_1 : decode cX5_init 1 = .ok (.invokespecial 1, 3) := by decide +kernel
theorem dX5_init_4 : decode cX5_init 4 = .ok (.aload_n 0, 1) := by decide +kernel
theorem dX5_init_5 : decode cX5_init 5 = .ok (.new 7, 3) := by decide +kernel
theorem dX5_init_8 : decode cX5_init 8 = .ok (.dup, 1) := by decide +kernel
theorem dX5_init_9 : decode cX5_init 9 = .ok (.invokespecial 9, 3) := by decide +kernel
theorem dX5_init_12 : decode cX5_init 12 = .ok (.putfield 10, 3) := by decide +kernel
theorem dX5_init_15 : decode cX5_init 15 = .ok (.aload_n 0, 1) := by decide +kernel
theorem dX5_init_16 : decode cX5_init 16 = .ok (.new 7, 3) := by decide +kernel
theorem dX5_init_19 : decode cX5_init 19 = .ok (.dup, 1) := by decide +kernel
theorem dX5_init_20 : decode cX5_init 20 = .ok (.invokespecial 9, 3) := by decide +kernel
theorem dX5_init_23 : decode cX5_init 23 = .ok (.putfield 16, 3) := by decide +kernel
theorem dX5_init_26 : decode cX5_init 26 = .ok (.aload_n 0, 1) := by decide +kernel
theorem dX5_init_27 : decode cX5_init 27 = .ok (.new 19, 3) := by decide +kernel
theorem dX5_init_30 : decode cX5_init 30 = .ok (.dup, 1) := by decide +kernel
theorem dX5_init_31 : decode cX5_init 31 = .ok (.sipush 301, 3) := by decide +kernel
theorem dX5_init_34 : decode cX5_init 34 = .ok (.invokespecial 21, 3) := by decide +kernel
theorem dX5_init_37 : decode cX5_init 37 = .ok (.putfield 24, 3) := by decide +kernel
theorem dX5_init_40 : decode cX5_init 40 = .ok (.return_, 1) := by decide +kernel
set_option maxRecDepth 20000 in
theorem ggX5_addLand_X5_within : GoodIn wsX5_addLand wsX5_within := goodIn_r _ [11] (by decide +kernel) (by decide +kernel)
set_option maxRecDepth 20000 in
theorem gX5_addLand_X5_within : GoodIn wsX5_addLand (va_wsS RX5 28 yX5_within wsX5_within) := goodIn_app (goodIn_of _ (by decide +kernel)) ggX5_addLand_X5_within
set_option maxRecDepth 20000 in
theorem ggX5_addLand_X0_tell : GoodIn wsX5_addLand wsX0_tell := goodIn_ca (goodIn_r _ [16, 17, 18, 19, 20, 21, 22, 23, 24, 25, 38, 39, 40, 41, 42, 43, 44] (by decide +kernel) (by decide +kernel)) (goodIn_sub (fun _ h => List.mem_cons_of_mem _ (List.mem_append_right _ h)) (by decide +kernel))
set_option maxRecDepth 20000 in
theorem gX5_addLand_X0_tell : GoodIn wsX5_addLand (wsV RX5 56 RX0 yX0_tell wsX0_tell) := goodIn_app (goodIn_of _ (by decide +kernel)) ggX5_addLand_X0_tell
theorem dX5_addLand_0 : decode cX5_addLand 0 = .ok (.iload_n 1, 1) := by decide +kernel
theorem dX5_addLand_1 : decode cX5_addLand 1 = .ok (.iconst 1, 1) := by decide +kernel
theorem dX5_addLand_2 : decode cX5_addLand 2 = .ok (.bipush 50, 2) := by decide +kernel
theorem dX5_addLand_4 : decode cX5_addLand 4 = .ok (.invokestatic 28, 3) := by decide +kernel
theorem dX5_addLand_7 : decode cX5_addLand 7 = .ok (.ifCond .ne 13, 3) := by decide +kernel
theorem dX5_addLand_10 : decode cX5_addLand 10 = .ok (.new 32, 3) := by decide +kernel
theorem dX5_addLand_13 : decode cX5_addLand 13 = .ok (.dup, 1) := by decide +kernel
theorem dX5_addLand_14 : decode cX5_addLand 14 = .ok (.ldc 34, 2) := by decide +kernel
theorem dX5_addLand_16 : decode cX5_addLand 16 = .ok (.invokespecial 36, 3) := by decide +kernel
theorem dX5_addLand_19 : decode cX5_addLand 19 = .ok (.athrow, 1) := by decide +kernel
theorem dX5_addLand_20 : decode cX5_addLand 20 = .ok (.iload_n 2, 1) := by decide +kernel
theorem dX5_addLand_21 : decode cX5_addLand 21 = .ok (.iconst 1, 1) := by decide +kernel
theorem dX5_addLand_22 : decode cX5_addLand 22 = .ok (.bipush 9, 2) := by decide +kernel
theorem dX5_addLand_24 : decode cX5_addLand 24 = .ok (.invokestatic 28, 3) := by decide +kernel
theorem dX5_addLand_27 : decode cX5_addLand 27 = .ok (.ifCond .ne 13, 3) := by decide +kernel
theorem dX5_addLand_30 : decode cX5_addLand 30 = .ok (.new 32, 3) := by decide +kernel
theorem dX5_addLand_33 : decode cX5_addLand 33 = .ok (.dup, 1) := by decide +kernel
theorem dX5_addLand_34 : decode cX5_addLand 34 = .ok (.ldc 39, 2) := by decide +kernel
theorem dX5_addLand_36 : decode cX5_addLand 36 = .ok (.invokespecial 36, 3) := by decide +kernel
theorem dX5_addLand_39 : decode cX5_addLand 39 = .ok (.athrow, 1) := by decide +kernel
theorem dX5_addLand_40 : decode cX5_addLand 40 = .ok (.aload_n 0, 1) := by decide +kernel
theorem dX5_addLand_41 : decode cX5_addLand 41 = .ok (.getfield 10, 3) := by decide +kernel
theorem dX5_addLand_44 : decode cX5_addLand 44 = .ok (.getfield 41, 3) := by decide +kernel
theorem dX5_addLand_47 : decode cX5_addLand 47 = .ok (.getfield 45, 3) := by decide +kernel
theorem dX5_addLand_50 : decode cX5_addLand 50 = .ok (.bipush 6, 2) := by decide +kernel
theorem dX5_addLand_52 : decode cX5_addLand 52 = .ok (.if_icmp .lt 13, 3) := by decide +kernel
theorem dX5_addLand_55 : decode cX5_addLand 55 = .ok (.new 51, 3) := by decide +kernel
theorem dX5_addLand_58 : decode cX5_addLand 58 = .ok (.dup, 1) := by decide +kernel
theorem dX5_addLand_59 : decode cX5_addLand 59 = .ok (.ldc 53, 2) := by decide +kernel
theorem dX5_addLand_61 : decode cX5_addLand 61 = .ok (.invokespecial 55, 3) := by decide +kernel
theorem dX5_addLand_64 : decode cX5_addLand 64 = .ok (.athrow, 1) := by decide +kernel
theorem dX5_addLand_65 : decode cX5_addLand 65 = .ok (.aload_n 0, 1) := by decide +kernel
theorem dX5_addLand_66 : decode cX5_addLand 66 = .ok (.getfield 10, 3) := by decide +kernel
theorem dX5_addLand_69 : decode cX5_addLand 69 = .ok (.getfield 41, 3) := by decide +kernel
theorem dX5_addLand_72 : decode cX5_addLand 72 = .ok (.iload_n 1, 1) := by decide +kernel
theorem dX5_addLand_73 : decode cX5_addLand 73 = .ok (.iload_n 2, 1) := by decide +kernel
theorem dX5_addLand_74 : decode cX5_addLand 74 = .ok (.invokevirtual 56, 3) := by decide +kernel
theorem dX5_addLand_77 : decode cX5_addLand 77 = .ok (.ireturn, 1) := by decide +kernel
set_option maxRecDepth 20000 in
theorem ggX5_setTide_X5_within : GoodIn wsX5_setTide wsX5_within := goodIn_r _ [10] (by decide +kernel) (by decide +kernel)
set_option maxRecDepth 20000 in
theorem gX5_setTide_X5_within : GoodIn wsX5_setTide (va_wsS RX5 28 yX5_within wsX5_within) := goodIn_app (goodIn_of _ (by decide +kernel)) ggX5_setTide_X5_within
set_option maxRecDepth 20000 in
theorem ggX5_setTide_X2_at : GoodIn wsX5_setTide wsX2_at := goodIn_ca (goodIn_r _ [15, 16, 33] (by decide +kernel) (by decide +kernel)) (goodIn_sub (fun _ h => List.mem_cons_of_mem _ (List.mem_append_right _ h)) (by decide +kernel))
set_option maxRecDepth 20000 in
theorem gX5_setTide_X2_at : GoodIn wsX5_setTide (wsV RX5 70 RX2 yX2_at wsX2_at) := goodIn_app (goodIn_of _ (by decide +kernel)) ggX5_setTide_X2_at
set_option maxRecDepth 20000 in
theorem ggX5_setTide_X2_put : GoodIn wsX5_setTide wsX2_put := goodIn_ca (goodIn_r _ [20, 16, 33] (by decide +kernel) (by decide +kernel)) (goodIn_sub (fun _ h => List.mem_cons_of_mem _ (List.mem_append_right _ h)) (by decide +kernel))
set_option maxRecDepth 20000 in
theorem gX5_setTide_X2_put : GoodIn wsX5_setTide (wsV RX5 74 RX2 yX2_put wsX2_put) := goodIn_app (goodIn_of _ (by decide +kernel)) ggX5_setTide_X2_put
theorem dX5_setTide_0 : decode cX5_setTide 0 = .ok (.iload_n 1, 1) := by decide +kernel
theorem dX5_setTide_1 : decode cX5_setTide 1 = .ok (.iconst 0, 1) := by decide +kernel
theorem dX5_setTide_2 : decode cX5_setTide 2 = .ok (.bipush 6, 2) := by decide +kernel
theorem dX5_setTide_4 : decode cX5_setTide 4 = .ok (.invokestatic 28, 3) := by decide +kernel
theorem dX5_setTide_7 : decode cX5_setTide 7 = .ok (.ifCond .ne 13, 3) := by decide +kernel
theorem dX5_setTide_10 : decode cX5_setTide 10 = .ok (.new 60, 3) := by decide +kernel
theorem dX5_setTide_13 : decode cX5_setTide 13 = .ok (.dup, 1) := by decide +kernel
theorem dX5_setTide_14 : decode cX5_setTide 14 = .ok (.ldc 62, 2) := by decide +kernel
theorem dX5_setTide_16 : decode cX5_setTide 16 = .ok (.invokespecial 64, 3) := by decide +kernel
theorem dX5_setTide_19 : decode cX5_setTide 19 = .ok (.athrow, 1) := by decide +kernel
theorem dX5_setTide_20 : decode cX5_setTide 20 = .ok (.iload_n 2, 1) := by decide +kernel
theorem dX5_setTide_21 : decode cX5_setTide 21 = .ok (.iconst 0, 1) := by decide +kernel
theorem dX5_setTide_22 : decode cX5_setTide 22 = .ok (.bipush 9, 2) := by decide +kernel
theorem dX5_setTide_24 : decode cX5_setTide 24 = .ok (.invokestatic 28, 3) := by decide +kernel
theorem dX5_setTide_27 : decode cX5_setTide 27 = .ok (.ifCond .ne 13, 3) := by decide +kernel
theorem dX5_setTide_30 : decode cX5_setTide 30 = .ok (.new 32, 3) := by decide +kernel
theorem dX5_setTide_33 : decode cX5_setTide 33 = .ok (.dup, 1) := by decide +kernel
theorem dX5_setTide_34 : decode cX5_setTide 34 = .ok (.ldc 65, 2) := by decide +kernel
theorem dX5_setTide_36 : decode cX5_setTide 36 = .ok (.invokespecial 36, 3) := by decide +kernel
theorem dX5_setTide_39 : decode cX5_setTide 39 = .ok (.athrow, 1) := by decide +kernel
theorem dX5_setTide_40 : decode cX5_setTide 40 = .ok (.aload_n 0, 1) := by decide +kernel
theorem dX5_setTide_41 : decode cX5_setTide 41 = .ok (.getfield 10, 3) := by decide +kernel
theorem dX5_setTide_44 : decode cX5_setTide 44 = .ok (.getfield 67, 3) := by decide +kernel
theorem dX5_setTide_47 : decode cX5_setTide 47 = .ok (.iload_n 1, 1) := by decide +kernel
theorem dX5_setTide_48 : decode cX5_setTide 48 = .ok (.invokevirtual 70, 3) := by decide +kernel
theorem dX5_setTide_51 : decode cX5_setTide 51 = .ok (.istore_n 3, 1) := by decide +kernel
theorem dX5_setTide_52 : decode cX5_setTide 52 = .ok (.aload_n 0, 1) := by decide +kernel
theorem dX5_setTide_53 : decode cX5_setTide 53 = .ok (.getfield 10, 3) := by decide +kernel
theorem dX5_setTide_56 : decode cX5_setTide 56 = .ok (.getfield 67, 3) := by decide +kernel
theorem dX5_setTide_59 : decode cX5_setTide 59 = .ok (.iload_n 1, 1) := by decide +kernel
theorem dX5_setTide_60 : decode cX5_setTide 60 = .ok (.iload_n 2, 1) := by decide +kernel
theorem dX5_setTide_61 : decode cX5_setTide 61 = .ok (.invokevirtual 74, 3) := by decide +kernel
theorem dX5_setTide_64 : decode cX5_setTide 64 = .ok (.iload_n 3, 1) := by decide +kernel
theorem dX5_setTide_65 : decode cX5_setTide 65 = .ok (.ireturn, 1) := by decide +kernel
set_option maxRecDepth 20000 in
theorem ggX5_wish_X0_has : GoodIn wsX5_wish wsX0_has := goodIn_r _ [16, 17, 93, 94, 95, 96, 97, 98] (by decide +kernel) (by decide +kernel)
set_option maxRecDepth 20000 in
theorem gX5_wish_X0_has : GoodIn wsX5_wish (wsV RX5 78 RX0 yX0_has wsX0_has) := goodIn_app (goodIn_of _ (by decide +kernel)) ggX5_wish_X0_has
set_option maxRecDepth 20000 in
theorem ggX5_wish_X5_within : GoodIn wsX5_wish wsX5_within := goodIn_r _ [21] (by decide +kernel) (by decide +kernel)
set_option maxRecDepth 20000 in
theorem gX5_wish_X5_within : GoodIn wsX5_wish (va_wsS RX5 28 yX5_within wsX5_within) := goodIn_app (goodIn_of _ (by decide +kernel)) ggX5_wish_X5_within
set_option maxRecDepth 20000 in
theorem ggX5_wish_X3_throwCoin : GoodIn wsX5_wish wsX3_throwCoin := goodIn_ca (goodIn_r _ [26, 27, 28, 29, 30, 31, 32, 33, 34, 35, 36, 37, 38, 39, 40, 41, 42, 43, 44, 45, 46, 47, 48, 49, 50, 51, 52, 53, 25, 54, 55, 56, 57, 58, 59, 78, 79, 80, 81, 82, 83, 84, 85, 86, 93, 94, 95, 96, 97, 98, 99, 100] (by decide +kernel) (by decide +kernel)) (goodIn_sub (fun _ h => List.mem_cons_of_mem _ (List.mem_append_right _ h)) (by decide +kernel))
set_option maxRecDepth 20000 in
theorem gX5_wish_X3_throwCoin : GoodIn wsX5_wish (wsV RX5 95 RX3 yX3_throwCoin wsX3_throwCoin) := goodIn_app (goodIn_of _ (by decide +kernel)) ggX5_wish_X3_throwCoin
set_option maxRecDepth 20000 in
theorem ggX5_wish_X4_tell : GoodIn wsX5_wish wsX4_tell := goodIn_ca (goodIn_r _ [64, 65, 66, 67, 68, 69, 70, 71, 72, 73, 43, 74, 45, 87, 88, 89, 90, 91, 92, 100] (by decide +kernel) (by decide +kernel)) (goodIn_sub (fun _ h => List.mem_cons_of_mem _ (List.mem_append_right _ h)) (by decide +kernel))
set_option maxRecDepth 20000 in
theorem gX5_wish_X4_tell : GoodIn wsX5_wish (wsV RX5 101 RX4 yX4_tell wsX4_tell) := goodIn_app (goodIn_of _ (by decide +kernel)) ggX5_wish_X4_tell
theorem dX5_wish_0 : decode cX5_wish 0 = .ok (.aload_n 0, 1) := by decide +kernel
theorem dX5_wish_1 : decode cX5_wish 1 = .ok (.getfield 10, 3) := by decide +kernel
theorem dX5_wish_4 : decode cX5_wish 4 = .ok (.getfield 41, 3) := by decide +kernel
theorem dX5_wish_7 : decode cX5_wish 7 = .ok (.iload_n 1, 1) := by decide +kernel
theorem dX5_wish_8 : decode cX5_wish 8 = .ok (.invokevirtual 78, 3) := by decide +kernel
theorem dX5_wish_11 : decode cX5_wish 11 = .ok (.ifCond .ne 13, 3) := by decide +kernel
theorem dX5_wish_14 : decode cX5_wish 14 = .ok (.new 60, 3) := by decide +kernel
theorem dX5_wish_17 : decode cX5_wish 17 = .ok (.dup, 1) := by decide +kernel
theorem dX5_wish_18 : decode cX5_wish 18 = .ok (.ldc 82, 2) := by decide +kernel
theorem dX5_wish_20 : decode cX5_wish 20 = .ok (.invokespecial 64, 3) := by decide +kernel
theorem dX5_wish_23 : decode cX5_wish 23 = .ok (.athrow, 1) := by decide +kernel
theorem dX5_wish_24 : decode cX5_wish 24 = .ok (.iload_n 2, 1) := by decide +kernel
theorem dX5_wish_25 : decode cX5_wish 25 = .ok (.iconst 0, 1) := by decide +kernel
theorem dX5_wish_26 : decode cX5_wish 26 = .ok (.iconst 3, 1) := by decide +kernel
theorem dX5_wish_27 : decode cX5_wish 27 = .ok (.invokestatic 28, 3) := by decide +kernel
theorem dX5_wish_30 : decode cX5_wish 30 = .ok (.ifCond .ne 13, 3) := by decide +kernel
theorem dX5_wish_33 : decode cX5_wish 33 = .ok (.new 32, 3) := by decide +kernel
theorem dX5_wish_36 : decode cX5_wish 36 = .ok (.dup, 1) := by decide +kernel
theorem dX5_wish_37 : decode cX5_wish 37 = .ok (.ldc 84, 2) := by decide +kernel
theorem dX5_wish_39 : decode cX5_wish 39 = .ok (.invokespecial 36, 3) := by decide +kernel
theorem dX5_wish_42 : decode cX5_wish 42 = .ok (.athrow, 1) := by decide +kernel
theorem dX5_wish_43 : decode cX5_wish 43 = .ok (.aload_n 0, 1) := by decide +kernel
theorem dX5_wish_44 : decode cX5_wish 44 = .ok (.getfield 10, 3) := by decide +kernel
theorem dX5_wish_47 : decode cX5_wish 47 = .ok (.getfield 86, 3) := by decide +kernel
theorem dX5_wish_50 : decode cX5_wish 50 = .ok (.getfield 90, 3) := by decide +kernel
theorem dX5_wish_53 : decode cX5_wish 53 = .ok (.bipush 24, 2) := by decide +kernel
theorem dX5_wish_55 : decode cX5_wish 55 = .ok (.if_icmp .lt 13, 3) := by decide +kernel
theorem dX5_wish_58 : decode cX5_wish 58 = .ok (.new 51, 3) := by decide +kernel
theorem dX5_wish_61 : decode cX5_wish 61 = .ok (.dup, 1) := by decide +kernel
theorem dX5_wish_62 : decode cX5_wish 62 = .ok (.ldc 93, 2) := by decide +kernel
theorem dX5_wish_64 : decode cX5_wish 64 = .ok (.invokespecial 55, 3) := by decide +kernel
theorem dX5_wish_67 : decode cX5_wish 67 = .ok (.athrow, 1) := by decide +kernel
theorem dX5_wish_68 : decode cX5_wish 68 = .ok (.aload_n 0, 1) := by decide +kernel
theorem dX5_wish_69 : decode cX5_wish 69 = .ok (.getfield 10, 3) := by decide +kernel
theorem dX5_wish_72 : decode cX5_wish 72 = .ok (.iload_n 1, 1) := by decide +kernel
theorem dX5_wish_73 : decode cX5_wish 73 = .ok (.invokevirtual 95, 3) := by decide +kernel
theorem dX5_wish_76 : decode cX5_wish 76 = .ok (.aload_n 0, 1) := by decide +kernel
theorem dX5_wish_77 : decode cX5_wish 77 = .ok (.getfield 10, 3) := by decide +kernel
theorem dX5_wish_80 : decode cX5_wish 80 = .ok (.getfield 86, 3) := by decide +kernel
theorem dX5_wish_83 : decode cX5_wish 83 = .ok (.iload_n 2, 1) := by decide +kernel
theorem dX5_wish_84 : decode cX5_wish 84 = .ok (.iload_n 1, 1) := by decide +kernel
theorem dX5_wish_85 : decode cX5_wish 85 = .ok (.aload_n 0, 1) := by decide +kernel
theorem dX5_wish_86 : decode cX5_wish 86 = .ok (.getfield 10, 3) := by decide +kernel
theorem dX5_wish_89 : decode cX5_wish 89 = .ok (.getfield 98, 3) := by decide +kernel
theorem dX5_wish_92 : decode cX5_wish 92 = .ok (.invokevirtual 101, 3) := by decide +kernel
theorem dX5_wish_95 : decode cX5_wish 95 = .ok (.ireturn, 1) := by decide +kernel
set_option maxRecDepth 20000 in
theorem ggX5_withdraw_X4_has : GoodIn wsX5_withdraw wsX4_has := goodIn_r _ [12, 13, 76, 77, 78, 79, 80, 81] (by decide +kernel) (by decide +kernel)
set_option maxRecDepth 20000 in
theorem gX5_withdraw_X4_has : GoodIn wsX5_withdraw (wsV RX5 104 RX4 yX4_has wsX4_has) := goodIn_app (goodIn_of _ (by decide +kernel)) ggX5_withdraw_X4_has
set_option maxRecDepth 20000 in
theorem ggX5_withdraw_X2_at : GoodIn wsX5_withdraw wsX2_at := goodIn_ca (goodIn_r _ [18, 19, 82] (by decide +kernel) (by decide +kernel)) (goodIn_sub (fun _ h => List.mem_cons_of_mem _ (List.mem_append_right _ h)) (by decide +kernel))
set_option maxRecDepth 20000 in
theorem gX5_withdraw_X2_at : GoodIn wsX5_withdraw (wsV RX5 70 RX2 yX2_at wsX2_at) := goodIn_app (goodIn_of _ (by decide +kernel)) ggX5_withdraw_X2_at
set_option maxRecDepth 20000 in
theorem ggX5_withdraw_X3_withdrawWish : GoodIn wsX5_withdraw wsX3_withdrawWish := goodIn_ca (goodIn_r _ [24, 25, 26, 27, 28, 29, 30, 31, 32, 33, 34, 35, 36, 15, 16, 17, 18, 19, 37, 38, 39, 40, 41, 42, 43, 44, 45, 46, 47, 48, 49, 50, 51, 52, 53, 54, 55, 56, 57, 58, 59, 60, 61, 62, 63, 67, 68, 69, 70, 71, 72, 73, 74, 75, 76, 77, 78, 79, 80, 81, 83, 84, 85, 86, 87, 88, 82, 89] (by decide +kernel) (by decide +kernel)) (goodIn_sub (fun _ h => List.mem_cons_of_mem _ (List.mem_append_right _ h)) (by decide +kernel))
set_option maxRecDepth 20000 in
theorem gX5_withdraw_X3_withdrawWish : GoodIn wsX5_withdraw (wsV RX5 112 RX3 yX3_withdrawWish wsX3_withdrawWish) := goodIn_app (goodIn_of _ (by decide +kernel)) ggX5_withdraw_X3_withdrawWish
theorem dX5_withdraw_0 : decode cX5_withdraw 0 = .ok (.aload_n 0, 1) := by decide +kernel
theorem dX5_withdraw_1 : decode cX5_withdraw 1 = .ok (.getfield 10, 3) := by decide +kernel
theorem dX5_withdraw_4 : decode cX5_withdraw 4 = .ok (.getfield 86, 3) := by decide +kernel
theorem dX5_withdraw_7 : decode cX5_withdraw 7 = .ok (.iload_n 1, 1) := by decide +kernel
theorem dX5_withdraw_8 : decode cX5_withdraw 8 = .ok (.invokevirtual 104, 3) := by decide +kernel
theorem dX5_withdraw_11 : decode cX5_withdraw 11 = .ok (.ifCond .ne 13, 3) := by decide +kernel
theorem dX5_withdraw_14 : decode cX5_withdraw 14 = .ok (.new 60, 3) := by decide +kernel
theorem dX5_withdraw_17 : decode cX5_withdraw 17 = .ok (.dup, 1) := by decide +kernel
theorem dX5_withdraw_18 : decode cX5_withdraw 18 = .ok (.ldc 105, 2) := by decide +kernel
theorem dX5_withdraw_20 : decode cX5_withdraw 20 = .ok (.invokespecial 64, 3) := by decide +kernel
theorem dX5_withdraw_23 : decode cX5_withdraw 23 = .ok (.athrow, 1) := by decide +kernel
theorem dX5_withdraw_24 : decode cX5_withdraw 24 = .ok (.aload_n 0, 1) := by decide +kernel
theorem dX5_withdraw_25 : decode cX5_withdraw 25 = .ok (.getfield 10, 3) := by decide +kernel
theorem dX5_withdraw_28 : decode cX5_withdraw 28 = .ok (.getfield 86, 3) := by decide +kernel
theorem dX5_withdraw_31 : decode cX5_withdraw 31 = .ok (.getfield 107, 3) := by decide +kernel
theorem dX5_withdraw_34 : decode cX5_withdraw 34 = .ok (.iload_n 1, 1) := by decide +kernel
theorem dX5_withdraw_35 : decode cX5_withdraw 35 = .ok (.invokevirtual 70, 3) := by decide +kernel
theorem dX5_withdraw_38 : decode cX5_withdraw 38 = .ok (.ifCond .eq 13, 3) := by decide +kernel
theorem dX5_withdraw_41 : decode cX5_withdraw 41 = .ok (.new 51, 3) := by decide +kernel
theorem dX5_withdraw_44 : decode cX5_withdraw 44 = .ok (.dup, 1) := by decide +kernel
theorem dX5_withdraw_45 : decode cX5_withdraw 45 = .ok (.ldc 110, 2) := by decide +kernel
theorem dX5_withdraw_47 : decode cX5_withdraw 47 = .ok (.invokespecial 55, 3) := by decide +kernel
theorem dX5_withdraw_50 : decode cX5_withdraw 50 = .ok (.athrow, 1) := by decide +kernel
theorem dX5_withdraw_51 : decode cX5_withdraw 51 = .ok (.aload_n 0, 1) := by decide +kernel
theorem dX5_withdraw_52 : decode cX5_withdraw 52 = .ok (.getfield 10, 3) := by decide +kernel
theorem dX5_withdraw_55 : decode cX5_withdraw 55 = .ok (.iload_n 1, 1) := by decide +kernel
theorem dX5_withdraw_56 : decode cX5_withdraw 56 = .ok (.invokevirtual 112, 3) := by decide +kernel
theorem dX5_withdraw_59 : decode cX5_withdraw 59 = .ok (.ireturn, 1) := by decide +kernel
set_option maxRecDepth 20000 in
theorem ggX5_fish_X5_within : GoodIn wsX5_fish wsX5_within := goodIn_r _ [9] (by decide +kernel) (by decide +kernel)
set_option maxRecDepth 20000 in
theorem gX5_fish_X5_within : GoodIn wsX5_fish (va_wsS RX5 28 yX5_within wsX5_within) := goodIn_app (goodIn_of _ (by decide +kernel)) ggX5_fish_X5_within
set_option maxRecDepth 20000 in
theorem ggX5_fish_X3_fishCoins : GoodIn wsX5_fish wsX3_fishCoins := goodIn_ca (goodIn_r _ [14, 15, 16, 17, 18, 19, 20, 21, 13, 22, 23, 24, 25, 26, 27, 28, 29, 30, 31, 32, 33, 34, 35, 36, 37, 38, 39, 40, 41, 42, 43, 44, 45, 46, 47, 51, 52, 53, 54, 55, 56, 57, 58, 59, 60, 61, 62, 63, 64, 65, 66, 67] (by decide +kernel) (by decide +kernel)) (goodIn_sub (fun _ h => List.mem_cons_of_mem _ (List.mem_append_right _ h)) (by decide +kernel))
set_option maxRecDepth 20000 in
theorem gX5_fish_X3_fishCoins : GoodIn wsX5_fish (wsV RX5 119 RX3 yX3_fishCoins wsX3_fishCoins) := goodIn_app (goodIn_of _ (by decide +kernel)) ggX5_fish_X3_fishCoins
theorem dX5_fish_0 : decode cX5_fish 0 = .ok (.iload_n 1, 1) := by decide +kernel
theorem dX5_fish_1 : decode cX5_fish 1 = .ok (.iconst 0, 1) := by decide +kernel
theorem dX5_fish_2 : decode cX5_fish 2 = .ok (.iconst 4, 1) := by decide +kernel
theorem dX5_fish_3 : decode cX5_fish 3 = .ok (.invokestatic 28, 3) := by decide +kernel
theorem dX5_fish_6 : decode cX5_fish 6 = .ok (.ifCond .ne 13, 3) := by decide +kernel
theorem dX5_fish_9 : decode cX5_fish 9 = .ok (.new 60, 3) := by decide +kernel
theorem dX5_fish_12 : decode cX5_fish 12 = .ok (.dup, 1) := by decide +kernel
theorem dX5_fish_13 : decode cX5_fish 13 = .ok (.ldc 115, 2) := by decide +kernel
theorem dX5_fish_15 : decode cX5_fish 15 = .ok (.invokespecial 64, 3) := by decide +kernel
theorem dX5_fish_18 : decode cX5_fish 18 = .ok (.athrow, 1) := by decide +kernel
theorem dX5_fish_19 : decode cX5_fish 19 = .ok (.iload_n 2, 1) := by decide +kernel
theorem dX5_fish_20 : decode cX5_fish 20 = .ok (.iconst 1, 1) := by decide +kernel
theorem dX5_fish_21 : decode cX5_fish 21 = .ok (.bipush 20, 2) := by decide +kernel
theorem dX5_fish_23 : decode cX5_fish 23 = .ok (.invokestatic 28, 3) := by decide +kernel
theorem dX5_fish_26 : decode cX5_fish 26 = .ok (.ifCond .ne 13, 3) := by decide +kernel
theorem dX5_fish_29 : decode cX5_fish 29 = .ok (.new 32, 3) := by decide +kernel
theorem dX5_fish_32 : decode cX5_fish 32 = .ok (.dup, 1) := by decide +kernel
theorem dX5_fish_33 : decode cX5_fish 33 = .ok (.ldc 117, 2) := by decide +kernel
theorem dX5_fish_35 : decode cX5_fish 35 = .ok (.invokespecial 36, 3) := by decide +kernel
theorem dX5_fish_38 : decode cX5_fish 38 = .ok (.athrow, 1) := by decide +kernel
theorem dX5_fish_39 : decode cX5_fish 39 = .ok (.aload_n 0, 1) := by decide +kernel
theorem dX5_fish_40 : decode cX5_fish 40 = .ok (.getfield 10, 3) := by decide +kernel
theorem dX5_fish_43 : decode cX5_fish 43 = .ok (.iload_n 1, 1) := by decide +kernel
theorem dX5_fish_44 : decode cX5_fish 44 = .ok (.iload_n 2, 1) := by decide +kernel
theorem dX5_fish_45 : decode cX5_fish 45 = .ok (.invokevirtual 119, 3) := by decide +kernel
theorem dX5_fish_48 : decode cX5_fish 48 = .ok (.ireturn, 1) := by decide +kernel
set_option maxRecDepth 20000 in
theorem ggX5_audit_X5_within : GoodIn wsX5_audit wsX5_within := goodIn_r _ [7] (by decide +kernel) (by decide +kernel)
set_option maxRecDepth 20000 in
theorem gX5_audit_X5_within : GoodIn wsX5_audit (va_wsS RX5 28 yX5_within wsX5_within) := goodIn_app (goodIn_of _ (by decide +kernel)) ggX5_audit_X5_within
set_option maxRecDepth 20000 in
theorem ggX5_audit_X3_auditLayer : GoodIn wsX5_audit wsX3_auditLayer := goodIn_ca (goodIn_r _ [12, 13, 14, 15, 16, 17, 18, 19, 20, 21, 22, 23, 24, 25, 26, 27, 28, 29, 30, 31, 32, 33, 34, 35, 36, 37, 38, 39, 11, 40, 41, 42, 43, 44, 45, 46, 47, 48, 49, 50, 51, 52, 56, 57, 58, 59, 60, 61, 62, 63, 64, 65, 66, 67, 68, 69, 70, 71, 72] (by decide +kernel) (by decide +kernel)) (goodIn_sub (fun _ h => List.mem_cons_of_mem _ (List.mem_append_right _ h)) (by decide +kernel))
set_option maxRecDepth 20000 in
theorem gX5_audit_X3_auditLayer : GoodIn wsX5_audit (wsV RX5 122 RX3 yX3_auditLayer wsX3_auditLayer) := goodIn_app (goodIn_of _ (by decide +kernel)) ggX5_audit_X3_auditLayer
theorem dX5_audit_0 : decode cX5_audit 0 = .ok (.iload_n 1, 1) := by decide +kernel
theorem dX5_audit_1 : decode cX5_audit 1 = .ok (.iconst 0, 1) := by decide +kernel
theorem dX5_audit_2 : decode cX5_audit 2 = .ok (.iconst 4, 1) := by decide +kernel
theorem dX5_audit_3 : decode cX5_audit 3 = .ok (.invokestatic 28, 3) := by decide +kernel
theorem dX5_audit_6 : decode cX5_audit 6 = .ok (.ifCond .ne 13, 3) := by decide +kernel
theorem dX5_audit_9 : decode cX5_audit 9 = .ok (.new 60, 3) := by decide +kernel
theorem dX5_audit_12 : decode cX5_audit 12 = .ok (.dup, 1) := by decide +kernel
theorem dX5_audit_13 : decode cX5_audit 13 = .ok (.ldc 115, 2) := by decide +kernel
theorem dX5_audit_15 : decode cX5_audit 15 = .ok (.invokespecial 64, 3) := by decide +kernel
theorem dX5_audit_18 : decode cX5_audit 18 = .ok (.athrow, 1) := by decide +kernel
theorem dX5_audit_19 : decode cX5_audit 19 = .ok (.aload_n 0, 1) := by decide +kernel
theorem dX5_audit_20 : decode cX5_audit 20 = .ok (.getfield 10, 3) := by decide +kernel
theorem dX5_audit_23 : decode cX5_audit 23 = .ok (.iload_n 1, 1) := by decide +kernel
theorem dX5_audit_24 : decode cX5_audit 24 = .ok (.invokevirtual 122, 3) := by decide +kernel
theorem dX5_audit_27 : decode cX5_audit 27 = .ok (.ireturn, 1) := by decide +kernel
set_option maxRecDepth 20000 in
theorem ggX5_missing_X0_has : GoodIn wsX5_missing wsX0_has := goodIn_r _ [9, 10, 53, 54, 55, 56, 57, 58] (by decide +kernel) (by decide +kernel)
set_option maxRecDepth 20000 in
theorem gX5_missing_X0_has : GoodIn wsX5_missing (wsV RX5 78 RX0 yX0_has wsX0_has) := goodIn_app (goodIn_of _ (by decide +kernel)) ggX5_missing_X0_has
set_option maxRecDepth 20000 in
theorem ggX5_missing_X3_missingCoins : GoodIn wsX5_missing wsX3_missingCoins := goodIn_ca (goodIn_r _ [15, 16, 17, 18, 19, 20, 21, 22, 23, 24, 25, 26, 27, 28, 29, 30, 31, 32, 33, 34, 35, 36, 37, 38, 39, 40, 44, 45, 46, 47, 48, 49, 50, 51, 52, 53, 54, 55, 56, 57, 58, 59, 60] (by decide +kernel) (by decide +kernel)) (goodIn_sub (fun _ h => List.mem_cons_of_mem _ (List.mem_append_right _ h)) (by decide +kernel))
set_option maxRecDepth 20000 in
theorem gX5_missing_X3_missingCoins : GoodIn wsX5_missing (wsV RX5 125 RX3 yX3_missingCoins wsX3_missingCoins) := goodIn_app (goodIn_of _ (by decide +kernel)) ggX5_missing_X3_missingCoins
theorem dX5_missing_0 : decode cX5_missing 0 = .ok (.aload_n 0, 1) := by decide +kernel
theorem dX5_missing_1 : decode cX5_missing 1 = .ok (.getfield 10, 3) := by decide +kernel
theorem dX5_missing_4 : decode cX5_missing 4 = .ok (.getfield 41, 3) := by decide +kernel
theorem dX5_missing_7 : decode cX5_missing 7 = .ok (.iload_n 1, 1) := by decide +kernel
theorem dX5_missing_8 : decode cX5_missing 8 = .ok (.invokevirtual 78, 3) := by decide +kernel
theorem dX5_missing_11 : decode cX5_missing 11 = .ok (.ifCond .ne 13, 3) := by decide +kernel
theorem dX5_missing_14 : decode cX5_missing 14 = .ok (.new 60, 3) := by decide +kernel
theorem dX5_missing_17 : decode cX5_missing 17 = .ok (.dup, 1) := by decide +kernel
theorem dX5_missing_18 : decode cX5_missing 18 = .ok (.ldc 82, 2) := by decide +kernel
theorem dX5_missing_20 : decode cX5_missing 20 = .ok (.invokespecial 64, 3) := by decide +kernel
theorem dX5_missing_23 : decode cX5_missing 23 = .ok (.athrow, 1) := by decide +kernel
theorem dX5_missing_24 : decode cX5_missing 24 = .ok (.aload_n 0, 1) := by decide +kernel
theorem dX5_missing_25 : decode cX5_missing 25 = .ok (.getfield 10, 3) := by decide +kernel
theorem dX5_missing_28 : decode cX5_missing 28 = .ok (.iload_n 1, 1) := by decide +kernel
theorem dX5_missing_29 : decode cX5_missing 29 = .ok (.invokevirtual 125, 3) := by decide +kernel
theorem dX5_missing_32 : decode cX5_missing 32 = .ok (.ireturn, 1) := by decide +kernel
set_option maxRecDepth 20000 in
theorem ggX5_land_X0_has : GoodIn wsX5_land wsX0_has := goodIn_r _ [9, 10, 58, 59, 60, 61, 62, 63] (by decide +kernel) (by decide +kernel)
set_option maxRecDepth 20000 in
theorem gX5_land_X0_has : GoodIn wsX5_land (wsV RX5 78 RX0 yX0_has wsX0_has) := goodIn_app (goodIn_of _ (by decide +kernel)) ggX5_land_X0_has
set_option maxRecDepth 20000 in
theorem ggX5_land_X5_within : GoodIn wsX5_land wsX5_within := goodIn_r _ [14] (by decide +kernel) (by decide +kernel)
set_option maxRecDepth 20000 in
theorem gX5_land_X5_within : GoodIn wsX5_land (va_wsS RX5 28 yX5_within wsX5_within) := goodIn_app (goodIn_of _ (by decide +kernel)) ggX5_land_X5_within
set_option maxRecDepth 20000 in
theorem ggX5_land_X3_landFigure : GoodIn wsX5_land wsX3_landFigure := goodIn_ca (goodIn_r _ [19, 20, 21, 22, 23, 24, 25, 26, 27, 28, 29, 30, 31, 32, 33, 34, 35, 36, 37, 38, 39, 40, 41, 42, 43, 44, 45, 49, 50, 51, 52, 53, 54, 55, 56, 57, 58, 59, 60, 61, 62, 63, 64, 65] (by decide +kernel) (by decide +kernel)) (goodIn_sub (fun _ h => List.mem_cons_of_mem _ (List.mem_append_right _ h)) (by decide +kernel))
set_option maxRecDepth 20000 in
theorem gX5_land_X3_landFigure : GoodIn wsX5_land (wsV RX5 130 RX3 yX3_landFigure wsX3_landFigure) := goodIn_app (goodIn_of _ (by decide +kernel)) ggX5_land_X3_landFigure
theorem dX5_land_0 : decode cX5_land 0 = .ok (.aload_n 0, 1) := by decide +kernel
theorem dX5_land_1 : decode cX5_land 1 = .ok (.getfield 10, 3) := by decide +kernel
theorem dX5_land_4 : decode cX5_land 4 = .ok (.getfield 41, 3) := by decide +kernel
theorem dX5_land_7 : decode cX5_land 7 = .ok (.iload_n 1, 1) := by decide +kernel
theorem dX5_land_8 : decode cX5_land 8 = .ok (.invokevirtual 78, 3) := by decide +kernel
theorem dX5_land_11 : decode cX5_land 11 = .ok (.ifCond .ne 13, 3) := by decide +kernel
theorem dX5_land_14 : decode cX5_land 14 = .ok (.new 60, 3) := by decide +kernel
theorem dX5_land_17 : decode cX5_land 17 = .ok (.dup, 1) := by decide +kernel
theorem dX5_land_18 : decode cX5_land 18 = .ok (.ldc 82, 2) := by decide +kernel
theorem dX5_land_20 : decode cX5_land 20 = .ok (.invokespecial 64, 3) := by decide +kernel
theorem dX5_land_23 : decode cX5_land 23 = .ok (.athrow, 1) := by decide +kernel
theorem dX5_land_24 : decode cX5_land 24 = .ok (.iload_n 2, 1) := by decide +kernel
theorem dX5_land_25 : decode cX5_land 25 = .ok (.iconst 0, 1) := by decide +kernel
theorem dX5_land_26 : decode cX5_land 26 = .ok (.iconst 4, 1) := by decide +kernel
theorem dX5_land_27 : decode cX5_land 27 = .ok (.invokestatic 28, 3) := by decide +kernel
theorem dX5_land_30 : decode cX5_land 30 = .ok (.ifCond .ne 13, 3) := by decide +kernel
theorem dX5_land_33 : decode cX5_land 33 = .ok (.new 60, 3) := by decide +kernel
theorem dX5_land_36 : decode cX5_land 36 = .ok (.dup, 1) := by decide +kernel
theorem dX5_land_37 : decode cX5_land 37 = .ok (.ldc 128, 2) := by decide +kernel
theorem dX5_land_39 : decode cX5_land 39 = .ok (.invokespecial 64, 3) := by decide +kernel
theorem dX5_land_42 : decode cX5_land 42 = .ok (.athrow, 1) := by decide +kernel
theorem dX5_land_43 : decode cX5_land 43 = .ok (.aload_n 0, 1) := by decide +kernel
theorem dX5_land_44 : decode cX5_land 44 = .ok (.getfield 10, 3) := by decide +kernel
theorem dX5_land_47 : decode cX5_land 47 = .ok (.iload_n 1, 1) := by decide +kernel
theorem dX5_land_48 : decode cX5_land 48 = .ok (.iload_n 2, 1) := by decide +kernel
theorem dX5_land_49 : decode cX5_land 49 = .ok (.invokevirtual 130, 3) := by decide +kernel
theorem dX5_land_52 : decode cX5_land 52 = .ok (.ireturn, 1) := by decide +kernel
set_option maxRecDepth 20000 in
theorem ggX5_coins_X5_within : GoodIn wsX5_coins wsX5_within := goodIn_r _ [9] (by decide +kernel) (by decide +kernel)
set_option maxRecDepth 20000 in
theorem gX5_coins_X5_within : GoodIn wsX5_coins (va_wsS RX5 28 yX5_within wsX5_within) := goodIn_app (goodIn_of _ (by decide +kernel)) ggX5_coins_X5_within
set_option maxRecDepth 20000 in
theorem ggX5_coins_X0_has : GoodIn wsX5_coins wsX0_has := goodIn_r _ [14, 15, 43, 44, 45, 46, 47, 48] (by decide +kernel) (by decide +kernel)
set_option maxRecDepth 20000 in
theorem gX5_coins_X0_has : GoodIn wsX5_coins (wsV RX5 78 RX0 yX0_has wsX0_has) := goodIn_app (goodIn_of _ (by decide +kernel)) ggX5_coins_X0_has
set_option maxRecDepth 20000 in
theorem ggX5_coins_X1_at : GoodIn wsX5_coins wsX1_at := goodIn_ca (goodIn_r _ [20, 21, 22, 23, 19, 24, 25, 26, 27, 28, 29, 30, 49, 50] (by decide +kernel) (by decide +kernel)) (goodIn_sub (fun _ h => List.mem_cons_of_mem _ (List.mem_append_right _ h)) (by decide +kernel))
set_option maxRecDepth 20000 in
theorem gX5_coins_X1_at : GoodIn wsX5_coins (wsV RX5 137 RX1 yX1_at wsX1_at) := goodIn_app (goodIn_of _ (by decide +kernel)) ggX5_coins_X1_at
theorem dX5_coins_0 : decode cX5_coins 0 = .ok (.iload_n 1, 1) := by decide +kernel
theorem dX5_coins_1 : decode cX5_coins 1 = .ok (.iconst 0, 1) := by decide +kernel
theorem dX5_coins_2 : decode cX5_coins 2 = .ok (.iconst 4, 1) := by decide +kernel
theorem dX5_coins_3 : decode cX5_coins 3 = .ok (.invokestatic 28, 3) := by decide +kernel
theorem dX5_coins_6 : decode cX5_coins 6 = .ok (.ifCond .ne 13, 3) := by decide +kernel
theorem dX5_coins_9 : decode cX5_coins 9 = .ok (.new 60, 3) := by decide +kernel
theorem dX5_coins_12 : decode cX5_coins 12 = .ok (.dup, 1) := by decide +kernel
theorem dX5_coins_13 : decode cX5_coins 13 = .ok (.ldc 115, 2) := by decide +kernel
theorem dX5_coins_15 : decode cX5_coins 15 = .ok (.invokespecial 64, 3) := by decide +kernel
theorem dX5_coins_18 : decode cX5_coins 18 = .ok (.athrow, 1) := by decide +kernel
theorem dX5_coins_19 : decode cX5_coins 19 = .ok (.aload_n 0, 1) := by decide +kernel
theorem dX5_coins_20 : decode cX5_coins 20 = .ok (.getfield 10, 3) := by decide +kernel
theorem dX5_coins_23 : decode cX5_coins 23 = .ok (.getfield 41, 3) := by decide +kernel
theorem dX5_coins_26 : decode cX5_coins 26 = .ok (.iload_n 2, 1) := by decide +kernel
theorem dX5_coins_27 : decode cX5_coins 27 = .ok (.invokevirtual 78, 3) := by decide +kernel
theorem dX5_coins_30 : decode cX5_coins 30 = .ok (.ifCond .ne 13, 3) := by decide +kernel
theorem dX5_coins_33 : decode cX5_coins 33 = .ok (.new 60, 3) := by decide +kernel
theorem dX5_coins_36 : decode cX5_coins 36 = .ok (.dup, 1) := by decide +kernel
theorem dX5_coins_37 : decode cX5_coins 37 = .ok (.ldc 82, 2) := by decide +kernel
theorem dX5_coins_39 : decode cX5_coins 39 = .ok (.invokespecial 64, 3) := by decide +kernel
theorem dX5_coins_42 : decode cX5_coins 42 = .ok (.athrow, 1) := by decide +kernel
theorem dX5_coins_43 : decode cX5_coins 43 = .ok (.aload_n 0, 1) := by decide +kernel
theorem dX5_coins_44 : decode cX5_coins 44 = .ok (.getfield 10, 3) := by decide +kernel
theorem dX5_coins_47 : decode cX5_coins 47 = .ok (.getfield 133, 3) := by decide +kernel
theorem dX5_coins_50 : decode cX5_coins 50 = .ok (.iload_n 1, 1) := by decide +kernel
theorem dX5_coins_51 : decode cX5_coins 51 = .ok (.iload_n 2, 1) := by decide +kernel
theorem dX5_coins_52 : decode cX5_coins 52 = .ok (.invokevirtual 137, 3) := by decide +kernel
theorem dX5_coins_55 : decode cX5_coins 55 = .ok (.ireturn, 1) := by decide +kernel
set_option maxRecDepth 20000 in
theorem ggX5_told_X4_has : GoodIn wsX5_told wsX4_has := goodIn_r _ [9, 10, 42, 43, 44, 45, 46, 47] (by decide +kernel) (by decide +kernel)
set_option maxRecDepth 20000 in
theorem gX5_told_X4_has : GoodIn wsX5_told (wsV RX5 104 RX4 yX4_has wsX4_has) := goodIn_app (goodIn_of _ (by decide +kernel)) ggX5_told_X4_has
set_option maxRecDepth 20000 in
theorem ggX5_told_X5_within : GoodIn wsX5_told wsX5_within := goodIn_r _ [14] (by decide +kernel) (by decide +kernel)
set_option maxRecDepth 20000 in
theorem gX5_told_X5_within : GoodIn wsX5_told (va_wsS RX5 28 yX5_within wsX5_within) := goodIn_app (goodIn_of _ (by decide +kernel)) ggX5_told_X5_within
set_option maxRecDepth 20000 in
theorem ggX5_told_X4_figure : GoodIn wsX5_told wsX4_figure := goodIn_ca (goodIn_r _ [18, 19, 20, 21, 22, 23, 24, 25, 26, 27, 28, 29, 42, 43, 44, 45, 46, 47, 48] (by decide +kernel) (by decide +kernel)) (goodIn_sub (fun _ h => List.mem_cons_of_mem _ (List.mem_append_right _ h)) (by decide +kernel))
set_option maxRecDepth 20000 in
theorem gX5_told_X4_figure : GoodIn wsX5_told (wsV RX5 141 RX4 yX4_figure wsX4_figure) := goodIn_app (goodIn_of _ (by decide +kernel)) ggX5_told_X4_figure
theorem dX5_told_0 : decode cX5_told 0 = .ok (.aload_n 0, 1) := by decide +kernel
theorem dX5_told_1 : decode cX5_told 1 = .ok (.getfield 10, 3) := by decide +kernel
theorem dX5_told_4 : decode cX5_told 4 = .ok (.getfield 86, 3) := by decide +kernel
theorem dX5_told_7 : decode cX5_told 7 = .ok (.iload_n 1, 1) := by decide +kernel
theorem dX5_told_8 : decode cX5_told 8 = .ok (.invokevirtual 104, 3) := by decide +kernel
theorem dX5_told_11 : decode cX5_told 11 = .ok (.ifCond .ne 13, 3) := by decide +kernel
theorem dX5_told_14 : decode cX5_told 14 = .ok (.new 60, 3) := by decide +kernel
theorem dX5_told_17 : decode cX5_told 17 = .ok (.dup, 1) := by decide +kernel
theorem dX5_told_18 : decode cX5_told 18 = .ok (.ldc 105, 2) := by decide +kernel
theorem dX5_told_20 : decode cX5_told 20 = .ok (.invokespecial 64, 3) := by decide +kernel
theorem dX5_told_23 : decode cX5_told 23 = .ok (.athrow, 1) := by decide +kernel
theorem dX5_told_24 : decode cX5_told 24 = .ok (.iload_n 2, 1) := by decide +kernel
theorem dX5_told_25 : decode cX5_told 25 = .ok (.iconst 0, 1) := by decide +kernel
theorem dX5_told_26 : decode cX5_told 26 = .ok (.iconst 4, 1) := by decide +kernel
theorem dX5_told_27 : decode cX5_told 27 = .ok (.invokestatic 28, 3) := by decide +kernel
theorem dX5_told_30 : decode cX5_told 30 = .ok (.ifCond .ne 13, 3) := by decide +kernel
theorem dX5_told_33 : decode cX5_told 33 = .ok (.new 60, 3) := by decide +kernel
theorem dX5_told_36 : decode cX5_told 36 = .ok (.dup, 1) := by decide +kernel
theorem dX5_told_37 : decode cX5_told 37 = .ok (.ldc 128, 2) := by decide +kernel
theorem dX5_told_39 : decode cX5_told 39 = .ok (.invokespecial 64, 3) := by decide +kernel
theorem dX5_told_42 : decode cX5_told 42 = .ok (.athrow, 1) := by decide +kernel
theorem dX5_told_43 : decode cX5_told 43 = .ok (.aload_n 0, 1) := by decide +kernel
theorem dX5_told_44 : decode cX5_told 44 = .ok (.getfield 10, 3) := by decide +kernel
theorem dX5_told_47 : decode cX5_told 47 = .ok (.getfield 86, 3) := by decide +kernel
theorem dX5_told_50 : decode cX5_told 50 = .ok (.iload_n 1, 1) := by decide +kernel
theorem dX5_told_51 : decode cX5_told 51 = .ok (.iload_n 2, 1) := by decide +kernel
theorem dX5_told_52 : decode cX5_told 52 = .ok (.invokevirtual 141, 3) := by decide +kernel
theorem dX5_told_55 : decode cX5_told 55 = .ok (.ireturn, 1) := by decide +kernel
set_option maxRecDepth 20000 in
theorem ggX5_count_X5_within : GoodIn wsX5_count wsX5_within := goodIn_r _ [7] (by decide +kernel) (by decide +kernel)
set_option maxRecDepth 20000 in
theorem gX5_count_X5_within : GoodIn wsX5_count (va_wsS RX5 28 yX5_within wsX5_within) := goodIn_app (goodIn_of _ (by decide +kernel)) ggX5_count_X5_within
set_option maxRecDepth 20000 in
theorem ggX5_count_X3_figure : GoodIn wsX5_count wsX3_figure := goodIn_ca (goodIn_r _ [12, 13, 14, 15, 16, 17, 18, 19, 20, 21, 22, 23, 24, 25, 26, 27, 28, 29, 30, 31, 32, 33, 34, 35, 36, 37, 11, 38, 39, 40, 41, 42, 43, 44, 45, 46, 47, 48, 49, 50, 51, 52, 53, 54, 55, 56, 57, 58, 59, 60, 61, 62, 63, 64, 68, 69, 70, 71, 72, 73, 74, 75, 76, 77, 78, 79, 80, 81, 82, 83, 84, 85, 86, 87, 88, 89, 90] (by decide +kernel) (by decide +kernel)) (goodIn_sub (fun _ h => List.mem_cons_of_mem _ (List.mem_append_right _ h)) (by decide +kernel))
set_option maxRecDepth 20000 in
theorem gX5_count_X3_figure : GoodIn wsX5_count (wsV RX5 146 RX3 yX3_figure wsX3_figure) := goodIn_app (goodIn_of _ (by decide +kernel)) ggX5_count_X3_figure
theorem dX5_count_0 : decode cX5_count 0 = .ok (.iload_n 1, 1) := by decide +kernel
theorem dX5_count_1 : decode cX5_count 1 = .ok (.iconst 0, 1) := by decide +kernel
theorem dX5_count_2 : decode cX5_count 2 = .ok (.bipush 10, 2) := by decide +kernel
theorem dX5_count_4 : decode cX5_count 4 = .ok (.invokestatic 28, 3) := by decide +kernel
theorem dX5_count_7 : decode cX5_count 7 = .ok (.ifCond .ne 13, 3) := by decide +kernel
theorem dX5_count_10 : decode cX5_count 10 = .ok (.new 60, 3) := by decide +kernel
theorem dX5_count_13 : decode cX5_count 13 = .ok (.dup, 1) := by decide +kernel
theorem dX5_count_14 : decode cX5_count 14 = .ok (.ldc 144, 2) := by decide +kernel
theorem dX5_count_16 : decode cX5_count 16 = .ok (.invokespecial 64, 3) := by decide +kernel
theorem dX5_count_19 : decode cX5_count 19 = .ok (.athrow, 1) := by decide +kernel
theorem dX5_count_20 : decode cX5_count 20 = .ok (.aload_n 0, 1) := by decide +kernel
theorem dX5_count_21 : decode cX5_count 21 = .ok (.getfield 10, 3) := by decide +kernel
theorem dX5_count_24 : decode cX5_count 24 = .ok (.iload_n 1, 1) := by decide +kernel
theorem dX5_count_25 : decode cX5_count 25 = .ok (.invokevirtual 146, 3) := by decide +kernel
theorem dX5_count_28 : decode cX5_count 28 = .ok (.ireturn, 1) := by decide +kernel
set_option maxRecDepth 20000 in
theorem ggX5_pass_X5_within : GoodIn wsX5_pass wsX5_within := goodIn_r _ [7] (by decide +kernel) (by decide +kernel)
set_option maxRecDepth 20000 in
theorem gX5_pass_X5_within : GoodIn wsX5_pass (va_wsS RX5 28 yX5_within wsX5_within) := goodIn_app (goodIn_of _ (by decide +kernel)) ggX5_pass_X5_within
set_option maxRecDepth 20000 in
theorem ggX5_pass_X3_liveDays : GoodIn wsX5_pass wsX3_liveDays := goodIn_ca (goodIn_r _ [12, 13, 14, 15, 11, 16, 17, 18, 19, 20, 21, 22, 23, 24, 25, 26, 27, 28, 29, 30, 31, 32, 33, 34, 35, 36, 37, 38, 39, 40, 41, 42, 43, 44, 45, 46, 47, 48, 49, 50, 51, 52, 53, 54, 55, 56, 57, 58, 59, 60, 61, 62, 63, 64, 65, 66, 67, 68, 69, 70, 71, 72, 73, 74, 75, 76, 77, 78, 79, 80, 81, 82, 83, 84, 85, 86, 87, 88, 89, 90, 91, 92, 93, 94, 95, 96, 97, 98, 99, 100, 104, 105, 106, 107, 108, 109, 110, 111, 112, 113, 114, 115, 116, 117, 118, 119, 120, 121, 122, 123, 124, 125, 126] (by decide +kernel) (by decide +kernel)) (goodIn_sub (fun _ h => List.mem_cons_of_mem _ (List.mem_append_right _ h)) (by decide +kernel))
set_option maxRecDepth 20000 in
theorem gX5_pass_X3_liveDays : GoodIn wsX5_pass (wsV RX5 150 RX3 yX3_liveDays wsX3_liveDays) := goodIn_app (goodIn_of _ (by decide +kernel)) ggX5_pass_X3_liveDays
theorem dX5_pass_0 : decode cX5_pass 0 = .ok (.iload_n 1, 1) := by decide +kernel
theorem dX5_pass_1 : decode cX5_pass 1 = .ok (.iconst 1, 1) := by decide +kernel
theorem dX5_pass_2 : decode cX5_pass 2 = .ok (.bipush 100, 2) := by decide +kernel
theorem dX5_pass_4 : decode cX5_pass 4 = .ok (.invokestatic 28, 3) := by decide +kernel
theorem dX5_pass_7 : decode cX5_pass 7 = .ok (.ifCond .ne 13, 3) := by decide +kernel
theorem dX5_pass_10 : decode cX5_pass 10 = .ok (.new 32, 3) := by decide +kernel
theorem dX5_pass_13 : decode cX5_pass 13 = .ok (.dup, 1) := by decide +kernel
theorem dX5_pass_14 : decode cX5_pass 14 = .ok (.ldc 148, 2) := by decide +kernel
theorem dX5_pass_16 : decode cX5_pass 16 = .ok (.invokespecial 36, 3) := by decide +kernel
theorem dX5_pass_19 : decode cX5_pass 19 = .ok (.athrow, 1) := by decide +kernel
theorem dX5_pass_20 : decode cX5_pass 20 = .ok (.aload_n 0, 1) := by decide +kernel
theorem dX5_pass_21 : decode cX5_pass 21 = .ok (.getfield 10, 3) := by decide +kernel
theorem dX5_pass_24 : decode cX5_pass 24 = .ok (.iload_n 1, 1) := by decide +kernel
theorem dX5_pass_25 : decode cX5_pass 25 = .ok (.invokevirtual 150, 3) := by decide +kernel
theorem dX5_pass_28 : decode cX5_pass 28 = .ok (.ireturn, 1) := by decide +kernel
set_option maxRecDepth 20000 in
theorem ggX5_next_X5_within : GoodIn wsX5_next wsX5_within := goodIn_r _ [7] (by decide +kernel) (by decide +kernel)
set_option maxRecDepth 20000 in
theorem gX5_next_X5_within : GoodIn wsX5_next (va_wsS RX5 28 yX5_within wsX5_within) := goodIn_app (goodIn_of _ (by decide +kernel)) ggX5_next_X5_within
set_option maxRecDepth 20000 in
theorem ggX5_next_X3_nextWish : GoodIn wsX5_next wsX3_nextWish := goodIn_ca (goodIn_r _ [12, 13, 14, 15, 16, 17, 11, 18, 19, 20, 21, 22, 23, 24, 25, 26, 27, 28, 29, 30, 31, 32, 33, 34, 35, 39, 40, 41, 42, 43, 44, 45, 46, 47, 48, 49, 50, 51, 52, 53, 54, 55, 56, 57, 58, 59, 60] (by decide +kernel) (by decide +kernel)) (goodIn_sub (fun _ h => List.mem_cons_of_mem _ (List.mem_append_right _ h)) (by decide +kernel))
set_option maxRecDepth 20000 in
theorem gX5_next_X3_nextWish : GoodIn wsX5_next (wsV RX5 153 RX3 yX3_nextWish wsX3_nextWish) := goodIn_app (goodIn_of _ (by decide +kernel)) ggX5_next_X3_nextWish
theorem dX5_next_0 : decode cX5_next 0 = .ok (.iload_n 1, 1) := by decide +kernel
theorem dX5_next_1 : decode cX5_next 1 = .ok (.iconst 0, 1) := by decide +kernel
theorem dX5_next_2 : decode cX5_next 2 = .ok (.iconst 3, 1) := by decide +kernel
theorem dX5_next_3 : decode cX5_next 3 = .ok (.invokestatic 28, 3) := by decide +kernel
theorem dX5_next_6 : decode cX5_next 6 = .ok (.ifCond .ne 13, 3) := by decide +kernel
theorem dX5_next_9 : decode cX5_next 9 = .ok (.new 60, 3) := by decide +kernel
theorem dX5_next_12 : decode cX5_next 12 = .ok (.dup, 1) := by decide +kernel
theorem dX5_next_13 : decode cX5_next 13 = .ok (.ldc 84, 2) := by decide +kernel
theorem dX5_next_15 : decode cX5_next 15 = .ok (.invokespecial 64, 3) := by decide +kernel
theorem dX5_next_18 : decode cX5_next 18 = .ok (.athrow, 1) := by decide +kernel
theorem dX5_next_19 : decode cX5_next 19 = .ok (.aload_n 0, 1) := by decide +kernel
theorem dX5_next_20 : decode cX5_next 20 = .ok (.getfield 10, 3) := by decide +kernel
theorem dX5_next_23 : decode cX5_next 23 = .ok (.iload_n 1, 1) := by decide +kernel
theorem dX5_next_24 : decode cX5_next 24 = .ok (.invokevirtual 153, 3) := by decide +kernel
theorem dX5_next_27 : decode cX5_next 27 = .ok (.ireturn, 1) := by decide +kernel
set_option maxRecDepth 20000 in
theorem ggX5_waits_X4_has : GoodIn wsX5_waits wsX4_has := goodIn_r _ [10, 11, 159, 160, 161, 162, 163, 164] (by decide +kernel) (by decide +kernel)
set_option maxRecDepth 20000 in
theorem gX5_waits_X4_has : GoodIn wsX5_waits (wsV RX5 104 RX4 yX4_has wsX4_has) := goodIn_app (goodIn_of _ (by decide +kernel)) ggX5_waits_X4_has
set_option maxRecDepth 20000 in
theorem ggX5_waits_X2_at : GoodIn wsX5_waits wsX2_at := goodIn_ca (goodIn_r _ [16, 17, 165] (by decide +kernel) (by decide +kernel)) (goodIn_sub (fun _ h => List.mem_cons_of_mem _ (List.mem_append_right _ h)) (by decide +kernel))
set_option maxRecDepth 20000 in
theorem gX5_waits_X2_at : GoodIn wsX5_waits (wsV RX5 70 RX2 yX2_at wsX2_at) := goodIn_app (goodIn_of _ (by decide +kernel)) ggX5_waits_X2_at
set_option maxRecDepth 20000 in
theorem ggX5_waits_X5_daysTillGranted : GoodIn wsX5_waits wsX5_daysTillGranted := goodIn_ca (goodIn_r _ [22, 23, 3, 4, 5, 24, 25, 26, 27, 28, 29, 30, 31, 32, 33, 34, 35, 36, 37, 38, 39, 40, 41, 42, 43, 44, 45, 46, 47, 48, 49, 50, 51, 15, 52, 17, 53, 54, 55, 56, 57, 58, 59, 60, 61, 62, 63, 9, 64, 65, 66, 67, 68, 69, 11, 70, 71, 72, 73, 74, 75, 76, 77, 78, 79, 80, 81, 82, 83, 84, 85, 86, 87, 88, 13, 14, 16, 89, 90, 91, 92, 93, 94, 95, 96, 97, 98, 99, 100, 101, 102, 103, 104, 105, 106, 107, 108, 109, 110, 111, 112, 113, 114, 115, 116, 117, 118, 119, 120, 121, 122, 123, 124, 125, 126, 127, 128, 129, 130, 131, 132, 133, 134, 135, 136, 137, 138, 139, 140, 141, 142, 143, 144, 145, 146, 12, 147, 148, 149, 150, 151, 152, 153, 154, 155, 156, 157, 158, 159, 160, 161, 162, 163, 164, 166, 167, 168, 169, 170, 171, 165, 172] (by decide +kernel) (by decide +kernel)) (goodIn_sub (fun _ h => List.mem_cons_of_mem _ (List.mem_append_right _ h)) (by decide +kernel))
set_option maxRecDepth 20000 in
theorem gX5_waits_X5_daysTillGranted : GoodIn wsX5_waits (wsV RX5 156 RX5 yX5_daysTillGranted wsX5_daysTillGranted) := goodIn_app (goodIn_of _ (by decide +kernel)) ggX5_waits_X5_daysTillGranted
theorem dX5_waits_0 : decode cX5_waits 0 = .ok (.aload_n 0, 1) := by decide +kernel
theorem dX5_waits_1 : decode cX5_waits 1 = .ok (.getfield 10, 3) := by decide +kernel
theorem dX5_waits_4 : decode cX5_waits 4 = .ok (.getfield 86, 3) := by decide +kernel
theorem dX5_waits_7 : decode cX5_waits 7 = .ok (.iload_n 1, 1) := by decide +kernel
theorem dX5_waits_8 : decode cX5_waits 8 = .ok (.invokevirtual 104, 3) := by decide +kernel
theorem dX5_waits_11 : decode cX5_waits 11 = .ok (.ifCond .ne 13, 3) := by decide +kernel
theorem dX5_waits_14 : decode cX5_waits 14 = .ok (.new 60, 3) := by decide +kernel
theorem dX5_waits_17 : decode cX5_waits 17 = .ok (.dup, 1) := by decide +kernel
theorem dX5_waits_18 : decode cX5_waits 18 = .ok (.ldc 105, 2) := by decide +kernel
theorem dX5_waits_20 : decode cX5_waits 20 = .ok (.invokespecial 64, 3) := by decide +kernel
theorem dX5_waits_23 : decode cX5_waits 23 = .ok (.athrow, 1) := by decide +kernel
theorem dX5_waits_24 : decode cX5_waits 24 = .ok (.aload_n 0, 1) := by decide +kernel
theorem dX5_waits_25 : decode cX5_waits 25 = .ok (.getfield 10, 3) := by decide +kernel
theorem dX5_waits_28 : decode cX5_waits 28 = .ok (.getfield 86, 3) := by decide +kernel
theorem dX5_waits_31 : decode cX5_waits 31 = .ok (.getfield 107, 3) := by decide +kernel
theorem dX5_waits_34 : decode cX5_waits 34 = .ok (.iload_n 1, 1) := by decide +kernel
theorem dX5_waits_35 : decode cX5_waits 35 = .ok (.invokevirtual 70, 3) := by decide +kernel
theorem dX5_waits_38 : decode cX5_waits 38 = .ok (.istore_n 2, 1) := by decide +kernel
theorem dX5_waits_39 : decode cX5_waits 39 = .ok (.iload_n 2, 1) := by decide +kernel
theorem dX5_waits_40 : decode cX5_waits 40 = .ok (.iconst 1, 1) := by decide +kernel
theorem dX5_waits_41 : decode cX5_waits 41 = .ok (.if_icmp .ne 5, 3) := by decide +kernel
theorem dX5_waits_44 : decode cX5_waits 44 = .ok (.iconst 0, 1) := by decide +kernel
theorem dX5_waits_45 : decode cX5_waits 45 = .ok (.ireturn, 1) := by decide +kernel
theorem dX5_waits_46 : decode cX5_waits 46 = .ok (.iload_n 2, 1) := by decide +kernel
theorem dX5_waits_47 : decode cX5_waits 47 = .ok (.iconst 2, 1) := by decide +kernel
theorem dX5_waits_48 : decode cX5_waits 48 = .ok (.if_icmp .ne 7, 3) := by decide +kernel
theorem dX5_waits_51 : decode cX5_waits 51 = .ok (.iconst (-1), 1) := by decide +kernel
theorem dX5_waits_52 : decode cX5_waits 52 = .ok (.goto 8, 3) := by decide +kernel
theorem dX5_waits_55 : decode cX5_waits 55 = .ok (.aload_n 0, 1) := by decide +kernel
theorem dX5_waits_56 : decode cX5_waits 56 = .ok (.iload_n 1, 1) := by decide +kernel
theorem dX5_waits_57 : decode cX5_waits 57 = .ok (.invokevirtual 156, 3) := by decide +kernel
theorem dX5_waits_60 : decode cX5_waits 60 = .ok (.ireturn, 1) := by decide +kernel
set_option maxRecDepth 20000 in
theorem ggX5_foresee_X5_within : GoodIn wsX5_foresee wsX5_within := goodIn_r _ [12] (by decide +kernel) (by decide +kernel)
set_option maxRecDepth 20000 in
theorem gX5_foresee_X5_within : GoodIn wsX5_foresee (va_wsS RX5 28 yX5_within wsX5_within) := goodIn_app (goodIn_of _ (by decide +kernel)) ggX5_foresee_X5_within
set_option maxRecDepth 20000 in
theorem ggX5_foresee_X3_takeOver : GoodIn wsX5_foresee wsX3_takeOver := goodIn_r _ [17, 18, 19, 20, 21, 22, 23, 24, 25, 26, 27, 28, 29, 30, 31, 32, 33, 34, 35, 36, 37, 38, 39, 40, 41, 42, 43, 44, 45, 46, 47, 48, 49, 50, 51, 52, 53, 54, 55, 56, 57, 58, 59, 60, 61, 62, 63, 64, 65, 66, 67, 68, 69, 70, 71, 163, 164, 165, 166, 167, 168, 169, 170, 171, 172, 173, 174, 175, 176, 177, 178, 179, 180, 181, 182, 183, 184, 185] (by decide +kernel) (by decide +kernel)
set_option maxRecDepth 20000 in
theorem gX5_foresee_X3_takeOver : GoodIn wsX5_foresee (wsV RX5 161 RX3 yX3_takeOver wsX3_takeOver) := goodIn_app (goodIn_of _ (by decide +kernel)) ggX5_foresee_X3_takeOver
set_option maxRecDepth 20000 in
theorem ggX5_foresee_X3_liveDays : GoodIn wsX5_foresee wsX3_liveDays := goodIn_ca (goodIn_r _ [75, 76, 77, 78, 16, 79, 24, 22, 80, 81, 82, 83, 18, 84, 21, 85, 86, 87, 41, 88, 43, 89, 90, 91, 92, 20, 93, 94, 95, 96, 97, 67, 98, 69, 99, 100, 101, 102, 103, 104, 105, 106, 107, 108, 109, 110, 23, 111, 45, 46, 47, 112, 113, 114, 115, 116, 117, 118, 119, 120, 121, 122, 123, 124, 125, 19, 126, 127, 128, 129, 130, 131, 132, 133, 134, 135, 136, 137, 138, 139, 140, 55, 141, 60, 57, 142, 143, 144, 145, 146, 163, 164, 165, 166, 167, 168, 169, 170, 171, 172, 173, 174, 175, 176, 177, 178, 185, 179, 180, 181, 182, 183, 184] (by decide +kernel) (by decide +kernel)) (goodIn_sub (fun _ h => List.mem_cons_of_mem _ (List.mem_append_right _ h)) (by decide +kernel))
set_option maxRecDepth 20000 in
theorem gX5_foresee_X3_liveDays : GoodIn wsX5_foresee (wsV RX5 150 RX3 yX3_liveDays wsX3_liveDays) := goodIn_app (goodIn_of _ (by decide +kernel)) ggX5_foresee_X3_liveDays
set_option maxRecDepth 20000 in
theorem ggX5_foresee_X1_coinsIn : GoodIn wsX5_foresee wsX1_coinsIn := goodIn_ca (goodIn_r _ [150, 151, 118, 119, 67, 120, 69, 99, 100, 101, 121, 86, 87, 41, 88, 43, 185, 178] (by decide +kernel) (by decide +kernel)) (goodIn_sub (fun _ h => List.mem_cons_of_mem _ (List.mem_append_right _ h)) (by decide +kernel))
set_option maxRecDepth 20000 in
theorem gX5_foresee_X1_coinsIn : GoodIn wsX5_foresee (wsV RX5 168 RX1 yX1_coinsIn wsX1_coinsIn) := goodIn_app (goodIn_of _ (by decide +kernel)) ggX5_foresee_X1_coinsIn
set_option maxRecDepth 20000 in
theorem ggX5_foresee_X3_valueOfAll : GoodIn wsX5_foresee wsX3_valueOfAll := goodIn_ca (goodIn_r _ [155, 156, 157, 158, 16, 159, 18, 84, 20, 94, 117, 118, 119, 67, 120, 69, 99, 100, 101, 121, 86, 87, 41, 88, 43, 85, 163, 164, 165, 166, 167, 168, 169, 170, 171, 172, 173, 174, 175, 176, 177, 185, 178] (by decide +kernel) (by decide +kernel)) (goodIn_sub (fun _ h => List.mem_cons_of_mem _ (List.mem_append_right _ h)) (by decide +kernel))
set_option maxRecDepth 20000 in
theorem gX5_foresee_X3_valueOfAll : GoodIn wsX5_foresee (wsV RX5 171 RX3 yX3_valueOfAll wsX3_valueOfAll) := goodIn_app (goodIn_of _ (by decide +kernel)) ggX5_foresee_X3_valueOfAll
theorem dX5_foresee_0 : decode cX5_foresee 0 = .ok (.iload_n 1, 1) := by decide +kernel
theorem dX5_foresee_1 : decode cX5_foresee 1 = .ok (.iconst 1, 1) := by decide +kernel
theorem dX5_foresee_2 : decode cX5_foresee 2 = .ok (.bipush 100, 2) := by decide +kernel
theorem dX5_foresee_4 : decode cX5_foresee 4 = .ok (.invokestatic 28, 3) := by decide +kernel
theorem dX5_foresee_7 : decode cX5_foresee 7 = .ok (.ifCond .ne 13, 3) := by decide +kernel
theorem dX5_foresee_10 : decode cX5_foresee 10 = .ok (.new 32, 3) := by decide +kernel
theorem dX5_foresee_13 : decode cX5_foresee 13 = .ok (.dup, 1) := by decide +kernel
theorem dX5_foresee_14 : decode cX5_foresee 14 = .ok (.ldc 148, 2) := by decide +kernel
theorem dX5_foresee_16 : decode cX5_foresee 16 = .ok (.invokespecial 36, 3) := by decide +kernel
theorem dX5_foresee_19 : decode cX5_foresee 19 = .ok (.athrow, 1) := by decide +kernel
theorem dX5_foresee_20 : decode cX5_foresee 20 = .ok (.iload_n 2, 1) := by decide +kernel
theorem dX5_foresee_21 : decode cX5_foresee 21 = .ok (.iconst 0, 1) := by decide +kernel
theorem dX5_foresee_22 : decode cX5_foresee 22 = .ok (.iconst 2, 1) := by decide +kernel
theorem dX5_foresee_23 : decode cX5_foresee 23 = .ok (.invokestatic 28, 3) := by decide +kernel
theorem dX5_foresee_26 : decode cX5_foresee 26 = .ok (.ifCond .ne 13, 3) := by decide +kernel
theorem dX5_foresee_29 : decode cX5_foresee 29 = .ok (.new 60, 3) := by decide +kernel
theorem dX5_foresee_32 : decode cX5_foresee 32 = .ok (.dup, 1) := by decide +kernel
theorem dX5_foresee_33 : decode cX5_foresee 33 = .ok (.ldc 159, 2) := by decide +kernel
theorem dX5_foresee_35 : decode cX5_foresee 35 = .ok (.invokespecial 64, 3) := by decide +kernel
theorem dX5_foresee_38 : decode cX5_foresee 38 = .ok (.athrow, 1) := by decide +kernel
theorem dX5_foresee_39 : decode cX5_foresee 39 = .ok (.aload_n 0, 1) := by decide +kernel
theorem dX5_foresee_40 : decode cX5_foresee 40 = .ok (.getfield 16, 3) := by decide +kernel
theorem dX5_foresee_43 : decode cX5_foresee 43 = .ok (.aload_n 0, 1) := by decide +kernel
theorem dX5_foresee_44 : decode cX5_foresee 44 = .ok (.getfield 10, 3) := by decide +kernel
theorem dX5_foresee_47 : decode cX5_foresee 47 = .ok (.invokevirtual 161, 3) := by decide +kernel
theorem dX5_foresee_50 : decode cX5_foresee 50 = .ok (.aload_n 0, 1) := by decide +kernel
theorem dX5_foresee_51 : decode cX5_foresee 51 = .ok (.getfield 16, 3) := by decide +kernel
theorem dX5_foresee_54 : decode cX5_foresee 54 = .ok (.iload_n 1, 1) := by decide +kernel
theorem dX5_foresee_55 : decode cX5_foresee 55 = .ok (.invokevirtual 150, 3) := by decide +kernel
theorem dX5_foresee_58 : decode cX5_foresee 58 = .ok (.pop, 1) := by decide +kernel
theorem dX5_foresee_59 : decode cX5_foresee 59 = .ok (.iload_n 2, 1) := by decide +kernel
theorem dX5_foresee_60 : decode cX5_foresee 60 = .ok (.ifCond .ne 11, 3) := by decide +kernel
theorem dX5_foresee_63 : decode cX5_foresee 63 = .ok (.aload_n 0, 1) := by decide +kernel
theorem dX5_foresee_64 : decode cX5_foresee 64 = .ok (.getfield 16, 3) := by decide +kernel
theorem dX5_foresee_67 : decode cX5_foresee 67 = .ok (.getfield 165, 3) := by decide +kernel
theorem dX5_foresee_70 : decode cX5_foresee 70 = .ok (.ireturn, 1) := by decide +kernel
theorem dX5_foresee_71 : decode cX5_foresee 71 = .ok (.iload_n 2, 1) := by decide +kernel
theorem dX5_foresee_72 : decode cX5_foresee 72 = .ok (.iconst 1, 1) := by decide +kernel
theorem dX5_foresee_73 : decode cX5_foresee 73 = .ok (.if_icmp .ne 17, 3) := by decide +kernel
theorem dX5_foresee_76 : decode cX5_foresee 76 = .ok (.aload_n 0, 1) := by decide +kernel
theorem dX5_foresee_77 : decode cX5_foresee 77 = .ok (.getfield 16, 3) := by decide +kernel
theorem dX5_foresee_80 : decode cX5_foresee 80 = .ok (.getfield 133, 3) := by decide +kernel
theorem dX5_foresee_83 : decode cX5_foresee 83 = .ok (.iconst 4, 1) := by decide +kernel
theorem dX5_foresee_84 : decode cX5_foresee 84 = .ok (.invokevirtual 168, 3) := by decide +kernel
theorem dX5_foresee_87 : decode cX5_foresee 87 = .ok (.goto 10, 3) := by decide +kernel
theorem dX5_foresee_90 : decode cX5_foresee 90 = .ok (.aload_n 0, 1) := by decide +kernel
theorem dX5_foresee_91 : decode cX5_foresee 91 = .ok (.getfield 16, 3) := by decide +kernel
theorem dX5_foresee_94 : decode cX5_foresee 94 = .ok (.invokevirtual 171, 3) := by decide +kernel
theorem dX5_foresee_97 : decode cX5_foresee 97 = .ok (.ireturn, 1) := by decide +kernel
set_option maxRecDepth 20000 in
theorem ggX5_richest_X3_valueIn : GoodIn wsX5_richest wsX3_valueIn := goodIn_ca (goodIn_r _ [6, 7, 8, 9, 10, 11, 12, 13, 14, 15, 16, 17, 18, 19, 20, 21, 22, 23, 24, 25, 26, 30, 31, 32, 33, 34, 35, 36, 37, 38, 39, 40, 41, 42, 43, 44, 45, 46] (by decide +kernel) (by decide +kernel)) (goodIn_sub (fun _ h => List.mem_cons_of_mem _ (List.mem_append_right _ h)) (by decide +kernel))
set_option maxRecDepth 20000 in
theorem gX5_richest_X3_valueIn : GoodIn wsX5_richest (wsV RX5 175 RX3 yX3_valueIn wsX3_valueIn) := goodIn_app (goodIn_of _ (by decide +kernel)) ggX5_richest_X3_valueIn
theorem dX5_richest_0 : decode cX5_richest 0 = .ok (.iconst (-1), 1) := by decide +kernel
theorem dX5_richest_1 : decode cX5_richest 1 = .ok (.istore_n 1, 1) := by decide +kernel
theorem dX5_richest_2 : decode cX5_richest 2 = .ok (.iconst 0, 1) := by decide +kernel
theorem dX5_richest_3 : decode cX5_richest 3 = .ok (.istore_n 2, 1) := by decide +kernel
theorem dX5_richest_4 : decode cX5_richest 4 = .ok (.iconst 0, 1) := by decide +kernel
theorem dX5_richest_5 : decode cX5_richest 5 = .ok (.istore_n 3, 1) := by decide +kernel
theorem dX5_richest_6 : decode cX5_richest 6 = .ok (.iload_n 3, 1) := by decide +kernel
theorem dX5_richest_7 : decode cX5_richest 7 = .ok (.iconst 5, 1) := by decide +kernel
theorem dX5_richest_8 : decode cX5_richest 8 = .ok (.if_icmp .ge 30, 3) := by decide +kernel
theorem dX5_richest_11 : decode cX5_richest 11 = .ok (.aload_n 0, 1) := by decide +kernel
theorem dX5_richest_12 : decode cX5_richest 12 = .ok (.getfield 10, 3) := by decide +kernel
theorem dX5_richest_15 : decode cX5_richest 15 = .ok (.iload_n 3, 1) := by decide +kernel
theorem dX5_richest_16 : decode cX5_richest 16 = .ok (.invokevirtual 175, 3) := by decide +kernel
theorem dX5_richest_19 : decode cX5_richest 19 = .ok (.istore 4, 2) := by decide +kernel
theorem dX5_richest_21 : decode cX5_richest 21 = .ok (.iload 4, 2) := by decide +kernel
theorem dX5_richest_23 : decode cX5_richest 23 = .ok (.iload_n 2, 1) := by decide +kernel
theorem dX5_richest_24 : decode cX5_richest 24 = .ok (.if_icmp .le 8, 3) := by decide +kernel
theorem dX5_richest_27 : decode cX5_richest 27 = .ok (.iload_n 3, 1) := by decide +kernel
theorem dX5_richest_28 : decode cX5_richest 28 = .ok (.istore_n 1, 1) := by decide +kernel
theorem dX5_richest_29 : decode cX5_richest 29 = .ok (.iload 4, 2) := by decide +kernel
theorem dX5_richest_31 : decode cX5_richest 31 = .ok (.istore_n 2, 1) := by decide +kernel
theorem dX5_richest_32 : decode cX5_richest 32 = .ok (.iinc 3 1, 3) := by decide +kernel
theorem dX5_richest_35 : decode cX5_richest 35 = .ok (.goto (-29), 3) := by decide +kernel
theorem dX5_richest_38 : decode cX5_richest 38 = .ok (.iload_n 1, 1) := by decide +kernel
theorem dX5_richest_39 : decode cX5_richest 39 = .ok (.ireturn, 1) := by decide +kernel
set_option maxRecDepth 20000 in
theorem ggX5_change_X5_within : GoodIn wsX5_change wsX5_within := goodIn_r _ [10] (by decide +kernel) (by decide +kernel)
set_option maxRecDepth 20000 in
theorem gX5_change_X5_within : GoodIn wsX5_change (va_wsS RX5 28 yX5_within wsX5_within) := goodIn_app (goodIn_of _ (by decide +kernel)) ggX5_change_X5_within
set_option maxRecDepth 20000 in
theorem ggX5_change_X2_put : GoodIn wsX5_change wsX2_put := goodIn_ca (goodIn_r _ [15, 16, 67] (by decide +kernel) (by decide +kernel)) (goodIn_sub (fun _ h => List.mem_cons_of_mem _ (List.mem_append_right _ h)) (by decide +kernel))
set_option maxRecDepth 20000 in
theorem gX5_change_X2_put : GoodIn wsX5_change (wsV RX5 74 RX2 yX2_put wsX2_put) := goodIn_app (goodIn_of _ (by decide +kernel)) ggX5_change_X2_put
set_option maxRecDepth 20000 in
theorem ggX5_change_X5_payWithLand : GoodIn wsX5_change wsX5_payWithLand := goodIn_ca (goodIn_r _ [20, 4, 5, 21, 22, 23, 24, 25, 26, 27, 28, 29, 14, 30, 16, 31, 32, 33, 34, 35, 36, 37, 38, 39, 40, 41, 42, 43, 44, 45, 46, 47, 9, 48, 3, 11, 12, 13, 15, 49, 50, 51, 52, 53, 54, 55, 56, 57, 58, 59, 60, 61, 62, 63, 64, 65, 66, 67, 68] (by decide +kernel) (by decide +kernel)) (goodIn_sub (fun _ h => List.mem_cons_of_mem _ (List.mem_append_right _ h)) (by decide +kernel))
set_option maxRecDepth 20000 in
theorem gX5_change_X5_payWithLand : GoodIn wsX5_change (wsV RX5 180 RX5 yX5_payWithLand wsX5_payWithLand) := goodIn_app (goodIn_of _ (by decide +kernel)) ggX5_change_X5_payWithLand
set_option maxRecDepth 20000 in
theorem ggX5_change_X2_at : GoodIn wsX5_change wsX2_at := goodIn_ca (goodIn_r _ [30, 16, 67] (by decide +kernel) (by decide +kernel)) (goodIn_sub (fun _ h => List.mem_cons_of_mem _ (List.mem_append_right _ h)) (by decide +kernel))
set_option maxRecDepth 20000 in
theorem gX5_change_X2_at : GoodIn wsX5_change (wsV RX5 70 RX2 yX2_at wsX2_at) := goodIn_app (goodIn_of _ (by decide +kernel)) ggX5_change_X2_at
theorem dX5_change_0 : decode cX5_change 0 = .ok (.iload_n 1, 1) := by decide +kernel
theorem dX5_change_1 : decode cX5_change 1 = .ok (.iconst 1, 1) := by decide +kernel
theorem dX5_change_2 : decode cX5_change 2 = .ok (.sipush 300, 3) := by decide +kernel
theorem dX5_change_5 : decode cX5_change 5 = .ok (.invokestatic 28, 3) := by decide +kernel
theorem dX5_change_8 : decode cX5_change 8 = .ok (.ifCond .ne 13, 3) := by decide +kernel
theorem dX5_change_11 : decode cX5_change 11 = .ok (.new 32, 3) := by decide +kernel
theorem dX5_change_14 : decode cX5_change 14 = .ok (.dup, 1) := by decide +kernel
theorem dX5_change_15 : decode cX5_change 15 = .ok (.ldc 178, 2) := by decide +kernel
theorem dX5_change_17 : decode cX5_change 17 = .ok (.invokespecial 36, 3) := by decide +kernel
theorem dX5_change_20 : decode cX5_change 20 = .ok (.athrow, 1) := by decide +kernel
theorem dX5_change_21 : decode cX5_change 21 = .ok (.iconst 1, 1) := by decide +kernel
theorem dX5_change_22 : decode cX5_change 22 = .ok (.istore_n 2, 1) := by decide +kernel
theorem dX5_change_23 : decode cX5_change 23 = .ok (.iload_n 2, 1) := by decide +kernel
theorem dX5_change_24 : decode cX5_change 24 = .ok (.iload_n 1, 1) := by decide +kernel
theorem dX5_change_25 : decode cX5_change 25 = .ok (.if_icmp .gt 18, 3) := by decide +kernel
theorem dX5_change_28 : decode cX5_change 28 = .ok (.aload_n 0, 1) := by decide +kernel
theorem dX5_change_29 : decode cX5_change 29 = .ok (.getfield 24, 3) := by decide +kernel
theorem dX5_change_32 : decode cX5_change 32 = .ok (.iload_n 2, 1) := by decide +kernel
theorem dX5_change_33 : decode cX5_change 33 = .ok (.iconst (-1), 1) := by decide +kernel
theorem dX5_change_34 : decode cX5_change 34 = .ok (.invokevirtual 74, 3) := by decide +kernel
theorem dX5_change_37 : decode cX5_change 37 = .ok (.iinc 2 1, 3) := by decide +kernel
theorem dX5_change_40 : decode cX5_change 40 = .ok (.goto (-17), 3) := by decide +kernel
theorem dX5_change_43 : decode cX5_change 43 = .ok (.aload_n 0, 1) := by decide +kernel
theorem dX5_change_44 : decode cX5_change 44 = .ok (.getfield 24, 3) := by decide +kernel
theorem dX5_change_47 : decode cX5_change 47 = .ok (.iconst 0, 1) := by decide +kernel
theorem dX5_change_48 : decode cX5_change 48 = .ok (.iconst 0, 1) := by decide +kernel
theorem dX5_change_49 : decode cX5_change 49 = .ok (.invokevirtual 74, 3) := by decide +kernel
theorem dX5_change_52 : decode cX5_change 52 = .ok (.iconst 0, 1) := by decide +kernel
theorem dX5_change_53 : decode cX5_change 53 = .ok (.istore_n 2, 1) := by decide +kernel
theorem dX5_change_54 : decode cX5_change 54 = .ok (.iload_n 2, 1) := by decide +kernel
theorem dX5_change_55 : decode cX5_change 55 = .ok (.aload_n 0, 1) := by decide +kernel
theorem dX5_change_56 : decode cX5_change 56 = .ok (.getfield 10, 3) := by decide +kernel
theorem dX5_change_59 : decode cX5_change 59 = .ok (.getfield 41, 3) := by decide +kernel
theorem dX5_change_62 : decode cX5_change 62 = .ok (.getfield 45, 3) := by decide +kernel
theorem dX5_change_65 : decode cX5_change 65 = .ok (.if_icmp .ge 15, 3) := by decide +kernel
theorem dX5_change_68 : decode cX5_change 68 = .ok (.aload_n 0, 1) := by decide +kernel
theorem dX5_change_69 : decode cX5_change 69 = .ok (.iload_n 2, 1) := by decide +kernel
theorem dX5_change_70 : decode cX5_change 70 = .ok (.iload_n 1, 1) := by decide +kernel
theorem dX5_change_71 : decode cX5_change 71 = .ok (.invokevirtual 180, 3) := by decide +kernel
theorem dX5_change_74 : decode cX5_change 74 = .ok (.iinc 2 1, 3) := by decide +kernel
theorem dX5_change_77 : decode cX5_change 77 = .ok (.goto (-23), 3) := by decide +kernel
theorem dX5_change_80 : decode cX5_change 80 = .ok (.aload_n 0, 1) := by decide +kernel
theorem dX5_change_81 : decode cX5_change 81 = .ok (.getfield 24, 3) := by decide +kernel
theorem dX5_change_84 : decode cX5_change 84 = .ok (.iload_n 1, 1) := by decide +kernel
theorem dX5_change_85 : decode cX5_change 85 = .ok (.invokevirtual 70, 3) := by decide +kernel
theorem dX5_change_88 : decode cX5_change 88 = .ok (.ireturn, 1) := by decide +kernel
set_option maxRecDepth 20000 in
theorem ggX5_mean_X4_meanWait : GoodIn wsX5_mean wsX4_meanWait := goodIn_ca (goodIn_r _ [7, 8, 9, 10, 11, 12, 13, 14, 15, 16, 17, 30, 31, 32, 33, 34, 35, 36] (by decide +kernel) (by decide +kernel)) (goodIn_sub (fun _ h => List.mem_cons_of_mem _ (List.mem_append_right _ h)) (by decide +kernel))
set_option maxRecDepth 20000 in
theorem gX5_mean_X4_meanWait : GoodIn wsX5_mean (wsV RX5 183 RX4 yX4_meanWait wsX4_meanWait) := goodIn_app (goodIn_of _ (by decide +kernel)) ggX5_mean_X4_meanWait
theorem dX5_mean_0 : decode cX5_mean 0 = .ok (.aload_n 0, 1) := by decide +kernel
theorem dX5_mean_1 : decode cX5_mean 1 = .ok (.getfield 10, 3) := by decide +kernel
theorem dX5_mean_4 : decode cX5_mean 4 = .ok (.getfield 86, 3) := by decide +kernel
theorem dX5_mean_7 : decode cX5_mean 7 = .ok (.invokevirtual 183, 3) := by decide +kernel
theorem dX5_mean_10 : decode cX5_mean 10 = .ok (.dreturn, 1) := by decide +kernel
set_option maxRecDepth 20000 in
theorem ggX5_digest_X3_figure : GoodIn wsX5_digest wsX3_figure := goodIn_ca (goodIn_r _ [9, 10, 11, 12, 13, 14, 15, 16, 17, 18, 19, 20, 21, 22, 23, 24, 25, 26, 27, 28, 29, 30, 31, 32, 33, 34, 8, 35, 36, 37, 38, 39, 40, 41, 42, 43, 44, 45, 46, 47, 48, 49, 50, 51, 52, 53, 54, 55, 56, 57, 58, 59, 60, 61, 109, 110, 111, 112, 113, 114, 115, 116, 117, 118, 119, 120, 121, 122, 123, 124, 125, 126, 127, 128, 129, 130, 131] (by decide +kernel) (by decide +kernel)) (goodIn_sub (fun _ h => List.mem_cons_of_mem _ (List.mem_append_right _ h)) (by decide +kernel))
set_option maxRecDepth 20000 in
theorem gX5_digest_X3_figure : GoodIn wsX5_digest (wsV RX5 146 RX3 yX3_figure wsX3_figure) := goodIn_app (goodIn_of _ (by decide +kernel)) ggX5_digest_X3_figure
set_option maxRecDepth 20000 in
theorem ggX5_digest_X2_at : GoodIn wsX5_digest wsX2_at := goodIn_ca (goodIn_r _ [30, 31, 130] (by decide +kernel) (by decide +kernel)) (goodIn_sub (fun _ h => List.mem_cons_of_mem _ (List.mem_append_right _ h)) (by decide +kernel))
set_option maxRecDepth 20000 in
theorem gX5_digest_X2_at : GoodIn wsX5_digest (wsV RX5 70 RX2 yX2_at wsX2_at) := goodIn_app (goodIn_of _ (by decide +kernel)) ggX5_digest_X2_at
set_option maxRecDepth 20000 in
theorem ggX5_digest_X5_digestLands : GoodIn wsX5_digest wsX5_digestLands := goodIn_ca (goodIn_r _ [67, 3, 68, 69, 2, 70, 71, 72, 8, 73, 11, 59, 74, 75, 36, 76, 61, 27, 28, 29, 30, 31, 77, 78, 79, 40, 80, 42, 43, 44, 45, 46, 47, 48, 49, 50, 81, 82, 83, 84, 85, 106, 107, 108, 109, 110, 111, 112, 113, 114, 115, 116, 117, 118, 119, 120, 121, 122, 123, 130, 131] (by decide +kernel) (by decide +kernel)) (goodIn_sub (fun _ h => List.mem_cons_of_mem _ (List.mem_append_right _ h)) (by decide +kernel))
set_option maxRecDepth 20000 in
theorem gX5_digest_X5_digestLands : GoodIn wsX5_digest (wsV RX5 191 RX5 yX5_digestLands wsX5_digestLands) := goodIn_app (goodIn_of _ (by decide +kernel)) ggX5_digest_X5_digestLands
set_option maxRecDepth 20000 in
theorem ggX5_digest_X5_digestLayers : GoodIn wsX5_digest wsX5_digestLayers := goodIn_ca (goodIn_r _ [89, 3, 68, 69, 2, 90, 91, 43, 44, 40, 45, 46, 47, 48, 49, 50, 27, 28, 29, 30, 31, 106, 107, 108, 109, 110, 111, 112, 113, 114, 115, 116, 117, 118, 119, 120, 121, 122, 123, 131, 130] (by decide +kernel) (by decide +kernel)) (goodIn_sub (fun _ h => List.mem_cons_of_mem _ (List.mem_append_right _ h)) (by decide +kernel))
set_option maxRecDepth 20000 in
theorem gX5_digest_X5_digestLayers : GoodIn wsX5_digest (wsV RX5 195 RX5 yX5_digestLayers wsX5_digestLayers) := goodIn_app (goodIn_of _ (by decide +kernel)) ggX5_digest_X5_digestLayers
set_option maxRecDepth 20000 in
theorem ggX5_digest_X5_digestWishes : GoodIn wsX5_digest wsX5_digestWishes := goodIn_ca (goodIn_r _ [95, 3, 96, 97, 2, 98, 99, 100, 22, 101, 102, 103, 104, 25, 105, 26, 27, 28, 29, 30, 31, 106, 107, 108, 109, 110, 111, 112, 113, 114, 115, 116, 117, 124, 125, 126, 127, 128, 129, 130] (by decide +kernel) (by decide +kernel)) (goodIn_sub (fun _ h => List.mem_cons_of_mem _ (List.mem_append_right _ h)) (by decide +kernel))
set_option maxRecDepth 20000 in
theorem gX5_digest_X5_digestWishes : GoodIn wsX5_digest (wsV RX5 198 RX5 yX5_digestWishes wsX5_digestWishes) := goodIn_app (goodIn_of _ (by decide +kernel)) ggX5_digest_X5_digestWishes
theorem dX5_digest_0 : decode cX5_digest 0 = .ok (.ldc2_w 187, 3) := by decide +kernel
theorem dX5_digest_3 : decode cX5_digest 3 = .ok (.lstore_n 1, 1) := by decide +kernel
theorem dX5_digest_4 : decode cX5_digest 4 = .ok (.iconst 0, 1) := by decide +kernel
theorem dX5_digest_5 : decode cX5_digest 5 = .ok (.istore_n 3, 1) := by decide +kernel
theorem dX5_digest_6 : decode cX5_digest 6 = .ok (.iload_n 3, 1) := by decide +kernel
theorem dX5_digest_7 : decode cX5_digest 7 = .ok (.bipush 10, 2) := by decide +kernel
theorem dX5_digest_9 : decode cX5_digest 9 = .ok (.if_icmp .gt 25, 3) := by decide +kernel
theorem dX5_digest_12 : decode cX5_digest 12 = .ok (.lload_n 1, 1) := by decide +kernel
theorem dX5_digest_13 : decode cX5_digest 13 = .ok (.ldc2_w 189, 3) := by decide +kernel
theorem dX5_digest_16 : decode cX5_digest 16 = .ok (.lmul, 1) := by decide +kernel
theorem dX5_digest_17 : decode cX5_digest 17 = .ok (.aload_n 0, 1) := by decide +kernel
theorem dX5_digest_18 : decode cX5_digest 18 = .ok (.getfield 10, 3) := by decide +kernel
theorem dX5_digest_21 : decode cX5_digest 21 = .ok (.iload_n 3, 1) := by decide +kernel
theorem dX5_digest_22 : decode cX5_digest 22 = .ok (.invokevirtual 146, 3) := by decide +kernel
theorem dX5_digest_25 : decode cX5_digest 25 = .ok (.i2l, 1) := by decide +kernel
theorem dX5_digest_26 : decode cX5_digest 26 = .ok (.ladd, 1) := by decide +kernel
theorem dX5_digest_27 : decode cX5_digest 27 = .ok (.lstore_n 1, 1) := by decide +kernel
theorem dX5_digest_28 : decode cX5_digest 28 = .ok (.iinc 3 1, 3) := by decide +kernel
theorem dX5_digest_31 : decode cX5_digest 31 = .ok (.goto (-25), 3) := by decide +kernel
theorem dX5_digest_34 : decode cX5_digest 34 = .ok (.iconst 0, 1) := by decide +kernel
theorem dX5_digest_35 : decode cX5_digest 35 = .ok (.istore_n 3, 1) := by decide +kernel
theorem dX5_digest_36 : decode cX5_digest 36 = .ok (.iload_n 3, 1) := by decide +kernel
theorem dX5_digest_37 : decode cX5_digest 37 = .ok (.bipush 7, 2) := by decide +kernel
theorem dX5_digest_39 : decode cX5_digest 39 = .ok (.if_icmp .ge 28, 3) := by decide +kernel
theorem dX5_digest_42 : decode cX5_digest 42 = .ok (.lload_n 1, 1) := by decide +kernel
theorem dX5_digest_43 : decode cX5_digest 43 = .ok (.ldc2_w 189, 3) := by decide +kernel
theorem dX5_digest_46 : decode cX5_digest 46 = .ok (.lmul, 1) := by decide +kernel
theorem dX5_digest_47 : decode cX5_digest 47 = .ok (.aload_n 0, 1) := by decide +kernel
theorem dX5_digest_48 : decode cX5_digest 48 = .ok (.getfield 10, 3) := by decide +kernel
theorem dX5_digest_51 : decode cX5_digest 51 = .ok (.getfield 67, 3) := by decide +kernel
theorem dX5_digest_54 : decode cX5_digest 54 = .ok (.iload_n 3, 1) := by decide +kernel
theorem dX5_digest_55 : decode cX5_digest 55 = .ok (.invokevirtual 70, 3) := by decide +kernel
theorem dX5_digest_58 : decode cX5_digest 58 = .ok (.i2l, 1) := by decide +kernel
theorem dX5_digest_59 : decode cX5_digest 59 = .ok (.ladd, 1) := by decide +kernel
theorem dX5_digest_60 : decode cX5_digest 60 = .ok (.lstore_n 1, 1) := by decide +kernel
theorem dX5_digest_61 : decode cX5_digest 61 = .ok (.iinc 3 1, 3) := by decide +kernel
theorem dX5_digest_64 : decode cX5_digest 64 = .ok (.goto (-28), 3) := by decide +kernel
theorem dX5_digest_67 : decode cX5_digest 67 = .ok (.aload_n 0, 1) := by decide +kernel
theorem dX5_digest_68 : decode cX5_digest 68 = .ok (.aload_n 0, 1) := by decide +kernel
theorem dX5_digest_69 : decode cX5_digest 69 = .ok (.aload_n 0, 1) := by decide +kernel
theorem dX5_digest_70 : decode cX5_digest 70 = .ok (.lload_n 1, 1) := by decide +kernel
theorem dX5_digest_71 : decode cX5_digest 71 = .ok (.invokevirtual 191, 3) := by decide +kernel
theorem dX5_digest_74 : decode cX5_digest 74 = .ok (.invokevirtual 195, 3) := by decide +kernel
theorem dX5_digest_77 : decode cX5_digest 77 = .ok (.invokevirtual 198, 3) := by decide +kernel
theorem dX5_digest_80 : decode cX5_digest 80 = .ok (.lreturn, 1) := by decide +kernel
set_option maxRecDepth 20000 in
theorem ggX5_digestLands_X3_landFigure : GoodIn wsX5_digestLands wsX3_landFigure := goodIn_ca (goodIn_r _ [9, 10, 11, 12, 13, 14, 15, 16, 17, 18, 19, 20, 21, 22, 23, 24, 25, 26, 27, 28, 29, 30, 31, 32, 33, 34, 35, 44, 45, 46, 47, 48, 49, 50, 51, 52, 53, 54, 55, 56, 57, 58, 59, 60] (by decide +kernel) (by decide +kernel)) (goodIn_sub (fun _ h => List.mem_cons_of_mem _ (List.mem_append_right _ h)) (by decide +kernel))
set_option maxRecDepth 20000 in
theorem gX5_digestLands_X3_landFigure : GoodIn wsX5_digestLands (wsV RX5 130 RX3 yX3_landFigure wsX3_landFigure) := goodIn_app (goodIn_of _ (by decide +kernel)) ggX5_digestLands_X3_landFigure
set_option maxRecDepth 20000 in
theorem ggX5_digestLands_X3_missingCoins : GoodIn wsX5_digestLands wsX3_missingCoins := goodIn_ca (goodIn_r _ [39, 10, 13, 14, 15, 40, 16, 17, 18, 19, 20, 21, 22, 23, 24, 25, 26, 27, 28, 29, 30, 31, 32, 33, 34, 35, 44, 45, 46, 47, 48, 49, 50, 51, 52, 53, 54, 55, 56, 57, 58, 59, 60] (by decide +kernel) (by decide +kernel)) (goodIn_sub (fun _ h => List.mem_cons_of_mem _ (List.mem_append_right _ h)) (by decide +kernel))
set_option maxRecDepth 20000 in
theorem gX5_digestLands_X3_missingCoins : GoodIn wsX5_digestLands (wsV RX5 125 RX3 yX3_missingCoins wsX3_missingCoins) := goodIn_app (goodIn_of _ (by decide +kernel)) ggX5_digestLands_X3_missingCoins
theorem dX5_digestLands_0 : decode cX5_digestLands 0 = .ok (.lload_n 1, 1) := by decide +kernel
theorem dX5_digestLands_1 : decode cX5_digestLands 1 = .ok (.lstore_n 3, 1) := by decide +kernel
theorem dX5_digestLands_2 : decode cX5_digestLands 2 = .ok (.iconst 0, 1) := by decide +kernel
theorem dX5_digestLands_3 : decode cX5_digestLands 3 = .ok (.istore 5, 2) := by decide +kernel
theorem dX5_digestLands_5 : decode cX5_digestLands 5 = .ok (.iload 5, 2) := by decide +kernel
theorem dX5_digestLands_7 : decode cX5_digestLands 7 = .ok (.aload_n 0, 1) := by decide +kernel
theorem dX5_digestLands_8 : decode cX5_digestLands 8 = .ok (.getfield 10, 3) := by decide +kernel
theorem dX5_digestLands_11 : decode cX5_digestLands 11 = .ok (.getfield 41, 3) := by decide +kernel
theorem dX5_digestLands_14 : decode cX5_digestLands 14 = .ok (.getfield 45, 3) := by decide +kernel
theorem dX5_digestLands_17 : decode cX5_digestLands 17 = .ok (.if_icmp .ge 60, 3) := by decide +kernel
theorem dX5_digestLands_20 : decode cX5_digestLands 20 = .ok (.iconst 0, 1) := by decide +kernel
theorem dX5_digestLands_21 : decode cX5_digestLands 21 = .ok (.istore 6, 2) := by decide +kernel
theorem dX5_digestLands_23 : decode cX5_digestLands 23 = .ok (.iload 6, 2) := by decide +kernel
theorem dX5_digestLands_25 : decode cX5_digestLands 25 = .ok (.iconst 4, 1) := by decide +kernel
theorem dX5_digestLands_26 : decode cX5_digestLands 26 = .ok (.if_icmp .gt 28, 3) := by decide +kernel
theorem dX5_digestLands_29 : decode cX5_digestLands 29 = .ok (.lload_n 3, 1) := by decide +kernel
theorem dX5_digestLands_30 : decode cX5_digestLands 30 = .ok (.ldc2_w 189, 3) := by decide +kernel
theorem dX5_digestLands_33 : decode cX5_digestLands 33 = .ok (.lmul, 1) := by decide +kernel
theorem dX5_digestLands_34 : decode cX5_digestLands 34 = .ok (.aload_n 0, 1) := by decide +kernel
theorem dX5_digestLands_35 : decode cX5_digestLands 35 = .ok (.getfield 10, 3) := by decide +kernel
theorem dX5_digestLands_38 : decode cX5_digestLands 38 = .ok (.iload 5, 2) := by decide +kernel
theorem dX5_digestLands_40 : decode cX5_digestLands 40 = .ok (.iload 6, 2) := by decide +kernel
theorem dX5_digestLands_42 : decode cX5_digestLands 42 = .ok (.invokevirtual 130, 3) := by decide +kernel
theorem dX5_digestLands_45 : decode cX5_digestLands 45 = .ok (.i2l, 1) := by decide +kernel
theorem dX5_digestLands_46 : decode cX5_digestLands 46 = .ok (.ladd, 1) := by decide +kernel
theorem dX5_digestLands_47 : decode cX5_digestLands 47 = .ok (.lstore_n 3, 1) := by decide +kernel
theorem dX5_digestLands_48 : decode cX5_digestLands 48 = .ok (.iinc 6 1, 3) := by decide +kernel
theorem dX5_digestLands_51 : decode cX5_digestLands 51 = .ok (.goto (-28), 3) := by decide +kernel
theorem dX5_digestLands_54 : decode cX5_digestLands 54 = .ok (.lload_n 3, 1) := by decide +kernel
theorem dX5_digestLands_55 : decode cX5_digestLands 55 = .ok (.ldc2_w 189, 3) := by decide +kernel
theorem dX5_digestLands_58 : decode cX5_digestLands 58 = .ok (.lmul, 1) := by decide +kernel
theorem dX5_digestLands_59 : decode cX5_digestLands 59 = .ok (.aload_n 0, 1) := by decide +kernel
theorem dX5_digestLands_60 : decode cX5_digestLands 60 = .ok (.getfield 10, 3) := by decide +kernel
theorem dX5_digestLands_63 : decode cX5_digestLands 63 = .ok (.iload 5, 2) := by decide +kernel
theorem dX5_digestLands_65 : decode cX5_digestLands 65 = .ok (.invokevirtual 125, 3) := by decide +kernel
theorem dX5_digestLands_68 : decode cX5_digestLands 68 = .ok (.i2l, 1) := by decide +kernel
theorem dX5_digestLands_69 : decode cX5_digestLands 69 = .ok (.ladd, 1) := by decide +kernel
theorem dX5_digestLands_70 : decode cX5_digestLands 70 = .ok (.lstore_n 3, 1) := by decide +kernel
theorem dX5_digestLands_71 : decode cX5_digestLands 71 = .ok (.iinc 5 1, 3) := by decide +kernel
theorem dX5_digestLands_74 : decode cX5_digestLands 74 = .ok (.goto (-69), 3) := by decide +kernel
theorem dX5_digestLands_77 : decode cX5_digestLands 77 = .ok (.lload_n 3, 1) := by decide +kernel
theorem dX5_digestLands_78 : decode cX5_digestLands 78 = .ok (.lreturn, 1) := by decide +kernel
set_option maxRecDepth 20000 in
theorem ggX5_digestLayers_X1_at : GoodIn wsX5_digestLayers wsX1_at := goodIn_ca (goodIn_r _ [10, 11, 12, 13, 9, 14, 15, 16, 17, 18, 19, 20, 39, 40] (by decide +kernel) (by decide +kernel)) (goodIn_sub (fun _ h => List.mem_cons_of_mem _ (List.mem_append_right _ h)) (by decide +kernel))
set_option maxRecDepth 20000 in
theorem gX5_digestLayers_X1_at : GoodIn wsX5_digestLayers (wsV RX5 137 RX1 yX1_at wsX1_at) := goodIn_app (goodIn_of _ (by decide +kernel)) ggX5_digestLayers_X1_at
theorem dX5_digestLayers_0 : decode cX5_digestLayers 0 = .ok (.lload_n 1, 1) := by decide +kernel
theorem dX5_digestLayers_1 : decode cX5_digestLayers 1 = .ok (.lstore_n 3, 1) := by decide +kernel
theorem dX5_digestLayers_2 : decode cX5_digestLayers 2 = .ok (.iconst 0, 1) := by decide +kernel
theorem dX5_digestLayers_3 : decode cX5_digestLayers 3 = .ok (.istore 5, 2) := by decide +kernel
theorem dX5_digestLayers_5 : decode cX5_digestLayers 5 = .ok (.iload 5, 2) := by decide +kernel
theorem dX5_digestLayers_7 : decode cX5_digestLayers 7 = .ok (.iconst 5, 1) := by decide +kernel
theorem dX5_digestLayers_8 : decode cX5_digestLayers 8 = .ok (.if_icmp .ge 55, 3) := by decide +kernel
theorem dX5_digestLayers_11 : decode cX5_digestLayers 11 = .ok (.iconst 0, 1) := by decide +kernel
theorem dX5_digestLayers_12 : decode cX5_digestLayers 12 = .ok (.istore 6, 2) := by decide +kernel
theorem dX5_digestLayers_14 : decode cX5_digestLayers 14 = .ok (.iload 6, 2) := by decide +kernel
theorem dX5_digestLayers_16 : decode cX5_digestLayers 16 = .ok (.aload_n 0, 1) := by decide +kernel
theorem dX5_digestLayers_17 : decode cX5_digestLayers 17 = .ok (.getfield 10, 3) := by decide +kernel
theorem dX5_digestLayers_20 : decode cX5_digestLayers 20 = .ok (.getfield 41, 3) := by decide +kernel
theorem dX5_digestLayers_23 : decode cX5_digestLayers 23 = .ok (.getfield 45, 3) := by decide +kernel
theorem dX5_digestLayers_26 : decode cX5_digestLayers 26 = .ok (.if_icmp .ge 31, 3) := by decide +kernel
theorem dX5_digestLayers_29 : decode cX5_digestLayers 29 = .ok (.lload_n 3, 1) := by decide +kernel
theorem dX5_digestLayers_30 : decode cX5_digestLayers 30 = .ok (.ldc2_w 189, 3) := by decide +kernel
theorem dX5_digestLayers_33 : decode cX5_digestLayers 33 = .ok (.lmul, 1) := by decide +kernel
theorem dX5_digestLayers_34 : decode cX5_digestLayers 34 = .ok (.aload_n 0, 1) := by decide +kernel
theorem dX5_digestLayers_35 : decode cX5_digestLayers 35 = .ok (.getfield 10, 3) := by decide +kernel
theorem dX5_digestLayers_38 : decode cX5_digestLayers 38 = .ok (.getfield 133, 3) := by decide +kernel
theorem dX5_digestLayers_41 : decode cX5_digestLayers 41 = .ok (.iload 5, 2) := by decide +kernel
theorem dX5_digestLayers_43 : decode cX5_digestLayers 43 = .ok (.iload 6, 2) := by decide +kernel
theorem dX5_digestLayers_45 : decode cX5_digestLayers 45 = .ok (.invokevirtual 137, 3) := by decide +kernel
theorem dX5_digestLayers_48 : decode cX5_digestLayers 48 = .ok (.i2l, 1) := by decide +kernel
theorem dX5_digestLayers_49 : decode cX5_digestLayers 49 = .ok (.ladd, 1) := by decide +kernel
theorem dX5_digestLayers_50 : decode cX5_digestLayers 50 = .ok (.lstore_n 3, 1) := by decide +kernel
theorem dX5_digestLayers_51 : decode cX5_digestLayers 51 = .ok (.iinc 6 1, 3) := by decide +kernel
theorem dX5_digestLayers_54 : decode cX5_digestLayers 54 = .ok (.goto (-40), 3) := by decide +kernel
theorem dX5_digestLayers_57 : decode cX5_digestLayers 57 = .ok (.iinc 5 1, 3) := by decide +kernel
theorem dX5_digestLayers_60 : decode cX5_digestLayers 60 = .ok (.goto (-55), 3) := by decide +kernel
theorem dX5_digestLayers_63 : decode cX5_digestLayers 63 = .ok (.lload_n 3, 1) := by decide +kernel
theorem dX5_digestLayers_64 : decode cX5_digestLayers 64 = .ok (.lreturn, 1) := by decide +kernel
set_option maxRecDepth 20000 in
theorem ggX5_digestWishes_X4_figure : GoodIn wsX5_digestWishes wsX4_figure := goodIn_ca (goodIn_r _ [9, 10, 11, 12, 13, 14, 15, 16, 17, 18, 19, 20, 33, 34, 35, 36, 37, 38, 39] (by decide +kernel) (by decide +kernel)) (goodIn_sub (fun _ h => List.mem_cons_of_mem _ (List.mem_append_right _ h)) (by decide +kernel))
set_option maxRecDepth 20000 in
theorem gX5_digestWishes_X4_figure : GoodIn wsX5_digestWishes (wsV RX5 141 RX4 yX4_figure wsX4_figure) := goodIn_app (goodIn_of _ (by decide +kernel)) ggX5_digestWishes_X4_figure
theorem dX5_digestWishes_0 : decode cX5_digestWishes 0 = .ok (.lload_n 1, 1) := by decide +kernel
theorem dX5_digestWishes_1 : decode cX5_digestWishes 1 = .ok (.lstore_n 3, 1) := by decide +kernel
theorem dX5_digestWishes_2 : decode cX5_digestWishes 2 = .ok (.iconst 0, 1) := by decide +kernel
theorem dX5_digestWishes_3 : decode cX5_digestWishes 3 = .ok (.istore 5, 2) := by decide +kernel
theorem dX5_digestWishes_5 : decode cX5_digestWishes 5 = .ok (.iload 5, 2) := by decide +kernel
theorem dX5_digestWishes_7 : decode cX5_digestWishes 7 = .ok (.aload_n 0, 1) := by decide +kernel
theorem dX5_digestWishes_8 : decode cX5_digestWishes 8 = .ok (.getfield 10, 3) := by decide +kernel
theorem dX5_digestWishes_11 : decode cX5_digestWishes 11 = .ok (.getfield 86, 3) := by decide +kernel
theorem dX5_digestWishes_14 : decode cX5_digestWishes 14 = .ok (.getfield 90, 3) := by decide +kernel
theorem dX5_digestWishes_17 : decode cX5_digestWishes 17 = .ok (.if_icmp .ge 46, 3) := by decide +kernel
theorem dX5_digestWishes_20 : decode cX5_digestWishes 20 = .ok (.iconst 0, 1) := by decide +kernel
theorem dX5_digestWishes_21 : decode cX5_digestWishes 21 = .ok (.istore 6, 2) := by decide +kernel
theorem dX5_digestWishes_23 : decode cX5_digestWishes 23 = .ok (.iload 6, 2) := by decide +kernel
theorem dX5_digestWishes_25 : decode cX5_digestWishes 25 = .ok (.iconst 4, 1) := by decide +kernel
theorem dX5_digestWishes_26 : decode cX5_digestWishes 26 = .ok (.if_icmp .gt 31, 3) := by decide +kernel
theorem dX5_digestWishes_29 : decode cX5_digestWishes 29 = .ok (.lload_n 3, 1) := by decide +kernel
theorem dX5_digestWishes_30 : decode cX5_digestWishes 30 = .ok (.ldc2_w 189, 3) := by decide +kernel
theorem dX5_digestWishes_33 : decode cX5_digestWishes 33 = .ok (.lmul, 1) := by decide +kernel
theorem dX5_digestWishes_34 : decode cX5_digestWishes 34 = .ok (.aload_n 0, 1) := by decide +kernel
theorem dX5_digestWishes_35 : decode cX5_digestWishes 35 = .ok (.getfield 10, 3) := by decide +kernel
theorem dX5_digestWishes_38 : decode cX5_digestWishes 38 = .ok (.getfield 86, 3) := by decide +kernel
theorem dX5_digestWishes_41 : decode cX5_digestWishes 41 = .ok (.iload 5, 2) := by decide +kernel
theorem dX5_digestWishes_43 : decode cX5_digestWishes 43 = .ok (.iload 6, 2) := by decide +kernel
theorem dX5_digestWishes_45 : decode cX5_digestWishes 45 = .ok (.invokevirtual 141, 3) := by decide +kernel
theorem dX5_digestWishes_48 : decode cX5_digestWishes 48 = .ok (.i2l, 1) := by decide +kernel
theorem dX5_digestWishes_49 : decode cX5_digestWishes 49 = .ok (.ladd, 1) := by decide +kernel
theorem dX5_digestWishes_50 : decode cX5_digestWishes 50 = .ok (.lstore_n 3, 1) := by decide +kernel
theorem dX5_digestWishes_51 : decode cX5_digestWishes 51 = .ok (.iinc 6 1, 3) := by decide +kernel
theorem dX5_digestWishes_54 : decode cX5_digestWishes 54 = .ok (.goto (-31), 3) := by decide +kernel
theorem dX5_digestWishes_57 : decode cX5_digestWishes 57 = .ok (.iinc 5 1, 3) := by decide +kernel
theorem dX5_digestWishes_60 : decode cX5_digestWishes 60 = .ok (.goto (-55), 3) := by decide +kernel
theorem dX5_digestWishes_63 : decode cX5_digestWishes 63 = .ok (.lload_n 3, 1) := by decide +kernel
theorem dX5_digestWishes_64 : decode cX5_digestWishes 64 = .ok (.lreturn, 1) := by decide +kernel
set_option maxRecDepth 20000 in
theorem ggX5_daysTillGranted_X3_takeOver : GoodIn wsX5_daysTillGranted wsX3_takeOver := goodIn_r _ [9, 10, 11, 12, 13, 14, 15, 16, 17, 18, 19, 20, 21, 22, 23, 24, 25, 26, 27, 28, 29, 30, 31, 32, 33, 34, 35, 36, 37, 38, 39, 40, 41, 42, 43, 44, 45, 46, 47, 48, 49, 50, 51, 52, 53, 54, 55, 56, 57, 58, 59, 60, 61, 62, 63, 139, 140, 141, 142, 143, 144, 145, 146, 147, 154, 155, 156, 157, 158, 159, 160, 148, 149, 150, 151, 152, 153, 161] (by decide +kernel) (by decide +kernel)
set_option maxRecDepth 20000 in
theorem gX5_daysTillGranted_X3_takeOver : GoodIn wsX5_daysTillGranted (wsV RX5 161 RX3 yX3_takeOver wsX3_takeOver) := goodIn_app (goodIn_of _ (by decide +kernel)) ggX5_daysTillGranted_X3_takeOver
set_option maxRecDepth 20000 in
theorem ggX5_daysTillGranted_X3_liveDay : GoodIn wsX5_daysTillGranted wsX3_liveDay := goodIn_ca (goodIn_r _ [67, 16, 14, 68, 69, 70, 8, 71, 10, 72, 13, 73, 74, 75, 33, 76, 35, 77, 78, 79, 80, 12, 81, 82, 83, 84, 85, 59, 86, 61, 87, 88, 89, 90, 91, 92, 93, 94, 95, 96, 97, 98, 15, 99, 37, 38, 39, 100, 101, 102, 103, 104, 105, 106, 107, 108, 109, 110, 111, 112, 113, 11, 114, 115, 116, 117, 118, 119, 120, 121, 122, 123, 124, 125, 126, 127, 128, 47, 129, 52, 49, 130, 131, 132, 133, 134, 139, 140, 141, 142, 143, 144, 145, 146, 147, 154, 155, 156, 157, 158, 159, 160, 161, 148, 149, 150, 151, 152, 153] (by decide +kernel) (by decide +kernel)) (goodIn_sub (fun _ h => List.mem_cons_of_mem _ (List.mem_append_right _ h)) (by decide +kernel))
set_option maxRecDepth 20000 in
theorem gX5_daysTillGranted_X3_liveDay : GoodIn wsX5_daysTillGranted (wsV RX5 201 RX3 yX3_liveDay wsX3_liveDay) := goodIn_app (goodIn_of _ (by decide +kernel)) ggX5_daysTillGranted_X3_liveDay
set_option maxRecDepth 20000 in
theorem ggX5_daysTillGranted_X2_at : GoodIn wsX5_daysTillGranted wsX2_at := goodIn_ca (goodIn_r _ [76, 35, 160] (by decide +kernel) (by decide +kernel)) (goodIn_sub (fun _ h => List.mem_cons_of_mem _ (List.mem_append_right _ h)) (by decide +kernel))
set_option maxRecDepth 20000 in
theorem gX5_daysTillGranted_X2_at : GoodIn wsX5_daysTillGranted (wsV RX5 70 RX2 yX2_at wsX2_at) := goodIn_app (goodIn_of _ (by decide +kernel)) ggX5_daysTillGranted_X2_at
theorem dX5_daysTillGranted_0 : decode cX5_daysTillGranted 0 = .ok (.aload_n 0, 1) := by decide +kernel
theorem dX5_daysTillGranted_1 : decode cX5_daysTillGranted 1 = .ok (.getfield 16, 3) := by decide +kernel
theorem dX5_daysTillGranted_4 : decode cX5_daysTillGranted 4 = .ok (.aload_n 0, 1) := by decide +kernel
theorem dX5_daysTillGranted_5 : decode cX5_daysTillGranted 5 = .ok (.getfield 10, 3) := by decide +kernel
theorem dX5_daysTillGranted_8 : decode cX5_daysTillGranted 8 = .ok (.invokevirtual 161, 3) := by decide +kernel
theorem dX5_daysTillGranted_11 : decode cX5_daysTillGranted 11 = .ok (.iconst 1, 1) := by decide +kernel
theorem dX5_daysTillGranted_12 : decode cX5_daysTillGranted 12 = .ok (.istore_n 2, 1) := by decide +kernel
theorem dX5_daysTillGranted_13 : decode cX5_daysTillGranted 13 = .ok (.iload_n 2, 1) := by decide +kernel
theorem dX5_daysTillGranted_14 : decode cX5_daysTillGranted 14 = .ok (.sipush 200, 3) := by decide +kernel
theorem dX5_daysTillGranted_17 : decode cX5_daysTillGranted 17 = .ok (.if_icmp .gt 37, 3) := by decide +kernel
theorem dX5_daysTillGranted_20 : decode cX5_daysTillGranted 20 = .ok (.aload_n 0, 1) := by decide +kernel
theorem dX5_daysTillGranted_21 : decode cX5_daysTillGranted 21 = .ok (.getfield 16, 3) := by decide +kernel
theorem dX5_daysTillGranted_24 : decode cX5_daysTillGranted 24 = .ok (.invokevirtual 201, 3) := by decide +kernel
theorem dX5_daysTillGranted_27 : decode cX5_daysTillGranted 27 = .ok (.pop, 1) := by decide +kernel
theorem dX5_daysTillGranted_28 : decode cX5_daysTillGranted 28 = .ok (.aload_n 0, 1) := by decide +kernel
theorem dX5_daysTillGranted_29 : decode cX5_daysTillGranted 29 = .ok (.getfield 16, 3) := by decide +kernel
theorem dX5_daysTillGranted_32 : decode cX5_daysTillGranted 32 = .ok (.getfield 86, 3) := by decide +kernel
theorem dX5_daysTillGranted_35 : decode cX5_daysTillGranted 35 = .ok (.getfield 107, 3) := by decide +kernel
theorem dX5_daysTillGranted_38 : decode cX5_daysTillGranted 38 = .ok (.iload_n 1, 1) := by decide +kernel
theorem dX5_daysTillGranted_39 : decode cX5_daysTillGranted 39 = .ok (.invokevirtual 70, 3) := by decide +kernel
theorem dX5_daysTillGranted_42 : decode cX5_daysTillGranted 42 = .ok (.iconst 1, 1) := by decide +kernel
theorem dX5_daysTillGranted_43 : decode cX5_daysTillGranted 43 = .ok (.if_icmp .ne 5, 3) := by decide +kernel
theorem dX5_daysTillGranted_46 : decode cX5_daysTillGranted 46 = .ok (.iload_n 2, 1) := by decide +kernel
theorem dX5_daysTillGranted_47 : decode cX5_daysTillGranted 47 = .ok (.ireturn, 1) := by decide +kernel
theorem dX5_daysTillGranted_48 : decode cX5_daysTillGranted 48 = .ok (.iinc 2 1, 3) := by decide +kernel
theorem dX5_daysTillGranted_51 : decode cX5_daysTillGranted 51 = .ok (.goto (-38), 3) := by decide +kernel
theorem dX5_daysTillGranted_54 : decode cX5_daysTillGranted 54 = .ok (.iconst (-1), 1) := by decide +kernel
theorem dX5_daysTillGranted_55 : decode cX5_daysTillGranted 55 = .ok (.ireturn, 1) := by decide +kernel
set_option maxRecDepth 20000 in
theorem ggX5_payWithLand_X2_at : GoodIn wsX5_payWithLand wsX2_at := goodIn_ca (goodIn_r _ [13, 14, 57] (by decide +kernel) (by decide +kernel)) (goodIn_sub (fun _ h => List.mem_cons_of_mem _ (List.mem_append_right _ h)) (by decide +kernel))
set_option maxRecDepth 20000 in
theorem gX5_payWithLand_X2_at : GoodIn wsX5_payWithLand (wsV RX5 70 RX2 yX2_at wsX2_at) := goodIn_app (goodIn_of _ (by decide +kernel)) ggX5_payWithLand_X2_at
set_option maxRecDepth 20000 in
theorem ggX5_payWithLand_X1_coinsOf : GoodIn wsX5_payWithLand wsX1_coinsOf := goodIn_ca (goodIn_r _ [19, 20, 21, 22, 18, 23, 24, 25, 26, 27, 28, 10, 11, 12, 13, 14, 58, 57] (by decide +kernel) (by decide +kernel)) (goodIn_sub (fun _ h => List.mem_cons_of_mem _ (List.mem_append_right _ h)) (by decide +kernel))
set_option maxRecDepth 20000 in
theorem gX5_payWithLand_X1_coinsOf : GoodIn wsX5_payWithLand (wsV RX5 208 RX1 yX1_coinsOf wsX1_coinsOf) := goodIn_app (goodIn_of _ (by decide +kernel)) ggX5_payWithLand_X1_coinsOf
set_option maxRecDepth 20000 in
theorem ggX5_payWithLand_X5_payWithBundle : GoodIn wsX5_payWithLand wsX5_payWithBundle := goodIn_ca (goodIn_r _ [33, 34, 9, 10, 11, 12, 13, 14, 35, 36, 37, 38, 39, 40, 41, 57] (by decide +kernel) (by decide +kernel)) (goodIn_sub (fun _ h => List.mem_cons_of_mem _ (List.mem_append_right _ h)) (by decide +kernel))
set_option maxRecDepth 20000 in
theorem gX5_payWithLand_X5_payWithBundle : GoodIn wsX5_payWithLand (wsV RX5 216 RX5 yX5_payWithBundle wsX5_payWithBundle) := goodIn_app (goodIn_of _ (by decide +kernel)) ggX5_payWithLand_X5_payWithBundle
theorem dX5_payWithLand_0 : decode cX5_payWithLand 0 = .ok (.aload_n 0, 1) := by decide +kernel
theorem dX5_payWithLand_1 : decode cX5_payWithLand 1 = .ok (.getfield 10, 3) := by decide +kernel
theorem dX5_payWithLand_4 : decode cX5_payWithLand 4 = .ok (.getfield 41, 3) := by decide +kernel
theorem dX5_payWithLand_7 : decode cX5_payWithLand 7 = .ok (.getfield 205, 3) := by decide +kernel
theorem dX5_payWithLand_10 : decode cX5_payWithLand 10 = .ok (.iload_n 1, 1) := by decide +kernel
theorem dX5_payWithLand_11 : decode cX5_payWithLand 11 = .ok (.invokevirtual 70, 3) := by decide +kernel
theorem dX5_payWithLand_14 : decode cX5_payWithLand 14 = .ok (.istore_n 3, 1) := by decide +kernel
theorem dX5_payWithLand_15 : decode cX5_payWithLand 15 = .ok (.iload_n 3, 1) := by decide +kernel
theorem dX5_payWithLand_16 : decode cX5_payWithLand 16 = .ok (.ifCond .gt 4, 3) := by decide +kernel
theorem dX5_payWithLand_19 : decode cX5_payWithLand 19 = .ok (.return_, 1) := by decide +kernel
theorem dX5_payWithLand_20 : decode cX5_payWithLand 20 = .ok (.aload_n 0, 1) := by decide +kernel
theorem dX5_payWithLand_21 : decode cX5_payWithLand 21 = .ok (.getfield 10, 3) := by decide +kernel
theorem dX5_payWithLand_24 : decode cX5_payWithLand 24 = .ok (.getfield 133, 3) := by decide +kernel
theorem dX5_payWithLand_27 : decode cX5_payWithLand 27 = .ok (.iload_n 1, 1) := by decide +kernel
theorem dX5_payWithLand_28 : decode cX5_payWithLand 28 = .ok (.invokevirtual 208, 3) := by decide +kernel
theorem dX5_payWithLand_31 : decode cX5_payWithLand 31 = .ok (.iload_n 2, 1) := by decide +kernel
theorem dX5_payWithLand_32 : decode cX5_payWithLand 32 = .ok (.iload_n 3, 1) := by decide +kernel
theorem dX5_payWithLand_33 : decode cX5_payWithLand 33 = .ok (.idiv, 1) := by decide +kernel
theorem dX5_payWithLand_34 : decode cX5_payWithLand 34 = .ok (.invokestatic 211, 3) := by decide +kernel
theorem dX5_payWithLand_37 : decode cX5_payWithLand 37 = .ok (.istore 4, 2) := by decide +kernel
theorem dX5_payWithLand_39 : decode cX5_payWithLand 39 = .ok (.iconst 1, 1) := by decide +kernel
theorem dX5_payWithLand_40 : decode cX5_payWithLand 40 = .ok (.istore 5, 2) := by decide +kernel
theorem dX5_payWithLand_42 : decode cX5_payWithLand 42 = .ok (.iload 5, 2) := by decide +kernel
theorem dX5_payWithLand_44 : decode cX5_payWithLand 44 = .ok (.sipush 300, 3) := by decide +kernel
theorem dX5_payWithLand_47 : decode cX5_payWithLand 47 = .ok (.if_icmp .gt 45, 3) := by decide +kernel
theorem dX5_payWithLand_50 : decode cX5_payWithLand 50 = .ok (.iload 4, 2) := by decide +kernel
theorem dX5_payWithLand_52 : decode cX5_payWithLand 52 = .ok (.ifCond .le 40, 3) := by decide +kernel
theorem dX5_payWithLand_55 : decode cX5_payWithLand 55 = .ok (.iload 5, 2) := by decide +kernel
theorem dX5_payWithLand_57 : decode cX5_payWithLand 57 = .ok (.iload 4, 2) := by decide +kernel
theorem dX5_payWithLand_59 : decode cX5_payWithLand 59 = .ok (.invokestatic 211, 3) := by decide +kernel
theorem dX5_payWithLand_62 : decode cX5_payWithLand 62 = .ok (.istore 6, 2) := by decide +kernel
theorem dX5_payWithLand_64 : decode cX5_payWithLand 64 = .ok (.aload_n 0, 1) := by decide +kernel
theorem dX5_payWithLand_65 : decode cX5_payWithLand 65 = .ok (.iload 6, 2) := by decide +kernel
theorem dX5_payWithLand_67 : decode cX5_payWithLand 67 = .ok (.iload 6, 2) := by decide +kernel
theorem dX5_payWithLand_69 : decode cX5_payWithLand 69 = .ok (.iload_n 3, 1) := by decide +kernel
theorem dX5_payWithLand_70 : decode cX5_payWithLand 70 = .ok (.imul, 1) := by decide +kernel
theorem dX5_payWithLand_71 : decode cX5_payWithLand 71 = .ok (.iload_n 2, 1) := by decide +kernel
theorem dX5_payWithLand_72 : decode cX5_payWithLand 72 = .ok (.invokevirtual 216, 3) := by decide +kernel
theorem dX5_payWithLand_75 : decode cX5_payWithLand 75 = .ok (.iload 4, 2) := by decide +kernel
theorem dX5_payWithLand_77 : decode cX5_payWithLand 77 = .ok (.iload 6, 2) := by decide +kernel
theorem dX5_payWithLand_79 : decode cX5_payWithLand 79 = .ok (.isub, 1) := by decide +kernel
theorem dX5_payWithLand_80 : decode cX5_payWithLand 80 = .ok (.istore 4, 2) := by decide +kernel
theorem dX5_payWithLand_82 : decode cX5_payWithLand 82 = .ok (.iload 5, 2) := by decide +kernel
theorem dX5_payWithLand_84 : decode cX5_payWithLand 84 = .ok (.iload 5, 2) := by decide +kernel
theorem dX5_payWithLand_86 : decode cX5_payWithLand 86 = .ok (.iadd, 1) := by decide +kernel
theorem dX5_payWithLand_87 : decode cX5_payWithLand 87 = .ok (.istore 5, 2) := by decide +kernel
theorem dX5_payWithLand_89 : decode cX5_payWithLand 89 = .ok (.goto (-47), 3) := by decide +kernel
theorem dX5_payWithLand_92 : decode cX5_payWithLand 92 = .ok (.return_, 1) := by decide +kernel
set_option maxRecDepth 20000 in
theorem ggX5_payWithBundle_X2_at : GoodIn wsX5_payWithBundle wsX2_at := goodIn_ca (goodIn_r _ [6, 7, 15] (by decide +kernel) (by decide +kernel)) (goodIn_sub (fun _ h => List.mem_cons_of_mem _ (List.mem_append_right _ h)) (by decide +kernel))
set_option maxRecDepth 20000 in
theorem gX5_payWithBundle_X2_at : GoodIn wsX5_payWithBundle (wsV RX5 70 RX2 yX2_at wsX2_at) := goodIn_app (goodIn_of _ (by decide +kernel)) ggX5_payWithBundle_X2_at
set_option maxRecDepth 20000 in
theorem ggX5_payWithBundle_X2_put : GoodIn wsX5_payWithBundle wsX2_put := goodIn_ca (goodIn_r _ [11, 7, 15] (by decide +kernel) (by decide +kernel)) (goodIn_sub (fun _ h => List.mem_cons_of_mem _ (List.mem_append_right _ h)) (by decide +kernel))
set_option maxRecDepth 20000 in
theorem gX5_payWithBundle_X2_put : GoodIn wsX5_payWithBundle (wsV RX5 74 RX2 yX2_put wsX2_put) := goodIn_app (goodIn_of _ (by decide +kernel)) ggX5_payWithBundle_X2_put
theorem dX5_payWithBundle_0 : decode cX5_payWithBundle 0 = .ok (.iload_n 3, 1) := by decide +kernel
theorem dX5_payWithBundle_1 : decode cX5_payWithBundle 1 = .ok (.istore 4, 2) := by decide +kernel
theorem dX5_payWithBundle_3 : decode cX5_payWithBundle 3 = .ok (.iload 4, 2) := by decide +kernel
theorem dX5_payWithBundle_5 : decode cX5_payWithBundle 5 = .ok (.iload_n 2, 1) := by decide +kernel
theorem dX5_payWithBundle_6 : decode cX5_payWithBundle 6 = .ok (.if_icmp .lt 67, 3) := by decide +kernel
theorem dX5_payWithBundle_9 : decode cX5_payWithBundle 9 = .ok (.aload_n 0, 1) := by decide +kernel
theorem dX5_payWithBundle_10 : decode cX5_payWithBundle 10 = .ok (.getfield 24, 3) := by decide +kernel
theorem dX5_payWithBundle_13 : decode cX5_payWithBundle 13 = .ok (.iload 4, 2) := by decide +kernel
theorem dX5_payWithBundle_15 : decode cX5_payWithBundle 15 = .ok (.iload_n 2, 1) := by decide +kernel
theorem dX5_payWithBundle_16 : decode cX5_payWithBundle 16 = .ok (.isub, 1) := by decide +kernel
theorem dX5_payWithBundle_17 : decode cX5_payWithBundle 17 = .ok (.invokevirtual 70, 3) := by decide +kernel
theorem dX5_payWithBundle_20 : decode cX5_payWithBundle 20 = .ok (.istore 5, 2) := by decide +kernel
theorem dX5_payWithBundle_22 : decode cX5_payWithBundle 22 = .ok (.aload_n 0, 1) := by decide +kernel
theorem dX5_payWithBundle_23 : decode cX5_payWithBundle 23 = .ok (.getfield 24, 3) := by decide +kernel
theorem dX5_payWithBundle_26 : decode cX5_payWithBundle 26 = .ok (.iload 4, 2) := by decide +kernel
theorem dX5_payWithBundle_28 : decode cX5_payWithBundle 28 = .ok (.invokevirtual 70, 3) := by decide +kernel
theorem dX5_payWithBundle_31 : decode cX5_payWithBundle 31 = .ok (.istore 6, 2) := by decide +kernel
theorem dX5_payWithBundle_33 : decode cX5_payWithBundle 33 = .ok (.iload 5, 2) := by decide +kernel
theorem dX5_payWithBundle_35 : decode cX5_payWithBundle 35 = .ok (.iconst (-1), 1) := by decide +kernel
theorem dX5_payWithBundle_36 : decode cX5_payWithBundle 36 = .ok (.if_icmp .eq 31, 3) := by decide +kernel
theorem dX5_payWithBundle_39 : decode cX5_payWithBundle 39 = .ok (.iload 6, 2) := by decide +kernel
theorem dX5_payWithBundle_41 : decode cX5_payWithBundle 41 = .ok (.iconst (-1), 1) := by decide +kernel
theorem dX5_payWithBundle_42 : decode cX5_payWithBundle 42 = .ok (.if_icmp .eq 12, 3) := by decide +kernel
theorem dX5_payWithBundle_45 : decode cX5_payWithBundle 45 = .ok (.iload 5, 2) := by decide +kernel
theorem dX5_payWithBundle_47 : decode cX5_payWithBundle 47 = .ok (.iload_n 1, 1) := by decide +kernel
theorem dX5_payWithBundle_48 : decode cX5_payWithBundle 48 = .ok (.iadd, 1) := by decide +kernel
theorem dX5_payWithBundle_49 : decode cX5_payWithBundle 49 = .ok (.iload 6, 2) := by decide +kernel
theorem dX5_payWithBundle_51 : decode cX5_payWithBundle 51 = .ok (.if_icmp .ge 16, 3) := by decide +kernel
theorem dX5_payWithBundle_54 : decode cX5_payWithBundle 54 = .ok (.aload_n 0, 1) := by decide +kernel
theorem dX5_payWithBundle_55 : decode cX5_payWithBundle 55 = .ok (.getfield 24, 3) := by decide +kernel
theorem dX5_payWithBundle_58 : decode cX5_payWithBundle 58 = .ok (.iload 4, 2) := by decide +kernel
theorem dX5_payWithBundle_60 : decode cX5_payWithBundle 60 = .ok (.iload 5, 2) := by decide +kernel
theorem dX5_payWithBundle_62 : decode cX5_payWithBundle 62 = .ok (.iload_n 1, 1) := by decide +kernel
theorem dX5_payWithBundle_63 : decode cX5_payWithBundle 63 = .ok (.iadd, 1) := by decide +kernel
theorem dX5_payWithBundle_64 : decode cX5_payWithBundle 64 = .ok (.invokevirtual 74, 3) := by decide +kernel
theorem dX5_payWithBundle_67 : decode cX5_payWithBundle 67 = .ok (.iinc 4 (-1), 3) := by decide +kernel
theorem dX5_payWithBundle_70 : decode cX5_payWithBundle 70 = .ok (.goto (-67), 3) := by decide +kernel
theorem dX5_payWithBundle_73 : decode cX5_payWithBundle 73 = .ok (.return_, 1) := by decide +kernel
theorem dX5_within_0 : decode cX5_within 0 = .ok (.iload_n 0, 1) := by decide +kernel
theorem dX5_within_1 : decode cX5_within 1 = .ok (.iload_n 1, 1) := by decide +kernel
theorem dX5_within_2 : decode cX5_within 2 = .ok (.if_icmp .lt 12, 3) := by decide +kernel
theorem dX5_within_5 : decode cX5_within 5 = .ok (.iload_n 0, 1) := by decide +kernel
theorem dX5_within_6 : decode cX5_within 6 = .ok (.iload_n 2, 1) := by decide +kernel
theorem dX5_within_7 : decode cX5_within 7 = .ok (.if_icmp .gt 7, 3) := by decide +kernel
theorem dX5_within_10 : decode cX5_within 10 = .ok (.iconst 1, 1) := by decide +kernel
theorem dX5_within_11 : decode cX5_within 11 = .ok (.goto 4, 3) := by decide +kernel
theorem dX5_within_14 : decode cX5_within 14 = .ok (.iconst 0, 1) := by decide +kernel
theorem dX5_within_15 : decode cX5_within 15 = .ok (.ireturn, 1) := by decide +kernel
theorem dX6_init_0 : decode cX6_init 0 = .ok (.aload_n 0, 1) := by decide +kernel
theorem dX6_init_1 : decode cX6_init 1 = .ok (.aload_n 1, 1) := by decide +kernel
theorem dX6_init_2 : decode cX6_init 2 = .ok (.putfield 3, 3) := by decide +kernel
theorem dX6_init_5 : decode cX6_init 5 = .ok (.aload_n 0, 1) := by decide +kernel
theorem dX6_init_6 : decode cX6_init 6 = .ok (.invokespecial 9, 3) := by decide +kernel
theorem dX6_init_9 : decode cX6_init 9 = .ok (.aload_n 0, 1) := by decide +kernel
theorem dX6_init_10 : decode cX6_init 10 = .ok (.bipush 50, 2) := by decide +kernel
theorem dX6_init_12 : decode cX6_init 12 = .ok (.putfield 15, 3) := by decide +kernel
theorem dX6_init_15 : decode cX6_init 15 = .ok (.aload_n 0, 1) := by decide +kernel
theorem dX6_init_16 : decode cX6_init 16 = .ok (.bipush 30, 2) := by decide +kernel
theorem dX6_init_18 : decode cX6_init 18 = .ok (.newarray .int, 2) := by decide +kernel
theorem dX6_init_20 : decode cX6_init 20 = .ok (.putfield 19, 3) := by decide +kernel
theorem dX6_init_23 : decode cX6_init 23 = .ok (.aload_n 0, 1) := by decide +kernel
theorem dX6_init_24 : decode cX6_init 24 = .ok (.bipush 6, 2) := by decide +kernel
theorem dX6_init_26 : decode cX6_init 26 = .ok (.newarray .int, 2) := by decide +kernel
theorem dX6_init_28 : decode cX6_init 28 = .ok (.putfield 23, 3) := by decide +kernel
theorem dX6_init_31 : decode cX6_init 31 = .ok (.aload_n 0, 1) := by decide +kernel
theorem dX6_init_32 : decode cX6_init 32 = .ok (.bipush 24, 2) := by decide +kernel
theorem dX6_init_34 : decode cX6_init 34 = .ok (.newarray .int, 2) := by decide +kernel
theorem dX6_init_36 : decode cX6_init 36 = .ok (.putfield 26, 3) := by decide +kernel
theorem dX6_init_39 : decode cX6_init 39 = .ok (.aload_n 0, 1) := by decide +kernel
theorem dX6_init_40 : decode cX6_init 40 = .ok (.bipush 24, 2) := by decide +kernel
theorem dX6_init_42 : decode cX6_init 42 = .ok (.newarray .int, 2) := by decide +kernel
theorem dX6_init_44 : decode cX6_init 44 = .ok (.putfield 29, 3) := by decide +kernel
theorem dX6_init_47 : decode cX6_init 47 = .ok (.return_, 1) := by decide +kernel
theorem dX6_copy_0 : decode cX6_copy 0 = .ok (.aload_n 1, 1) := by decide +kernel
theorem dX6_copy_1 : decode cX6_copy 1 = .ok (.iconst 0, 1) := by decide +kernel
theorem dX6_copy_2 : decode cX6_copy 2 = .ok (.aload_n 2, 1) := by decide +kernel
theorem dX6_copy_3 : decode cX6_copy 3 = .ok (.iconst 0, 1) := by decide +kernel
theorem dX6_copy_4 : decode cX6_copy 4 = .ok (.aload_n 1, 1) := by decide +kernel
theorem dX6_copy_5 : decode cX6_copy 5 = .ok (.arraylength, 1) := by decide +kernel
theorem dX6_copy_6 : decode cX6_copy 6 = .ok (.invokestatic 32, 3) := by decide +kernel
theorem dX6_copy_9 : decode cX6_copy 9 = .ok (.return_, 1) := by decide +kernel
set_option maxRecDepth 20000 in
theorem ggX6_become_X6_copy : GoodIn wsX6_become wsX6_copy := goodIn_r _ [12, 13, 14, 15, 16] (by decide +kernel) (by decide +kernel)
set_option maxRecDepth 20000 in
theorem gX6_become_X6_copy : GoodIn wsX6_become (wsV RX6 44 RX6 yX6_copy wsX6_copy) := goodIn_app (goodIn_of _ (by decide +kernel)) ggX6_become_X6_copy
theorem dX6_become_0 : decode cX6_become 0 = .ok (.aload_n 0, 1) := by decide +kernel
theorem dX6_become_1 : decode cX6_become 1 = .ok (.aload_n 1, 1) := by decide +kernel
theorem dX6_become_2 : decode cX6_become 2 = .ok (.getfield 38, 3) := by decide +kernel
theorem dX6_become_5 : decode cX6_become 5 = .ok (.putfield 38, 3) := by decide +kernel
theorem dX6_become_8 : decode cX6_become 8 = .ok (.aload_n 0, 1) := by decide +kernel
theorem dX6_become_9 : decode cX6_become 9 = .ok (.aload_n 1, 1) := by decide +kernel
theorem dX6_become_10 : decode cX6_become 10 = .ok (.getfield 15, 3) := by decide +kernel
theorem dX6_become_13 : decode cX6_become 13 = .ok (.putfield 15, 3) := by decide +kernel
theorem dX6_become_16 : decode cX6_become 16 = .ok (.aload_n 0, 1) := by decide +kernel
theorem dX6_become_17 : decode cX6_become 17 = .ok (.aload_n 1, 1) := by decide +kernel
theorem dX6_become_18 : decode cX6_become 18 = .ok (.getfield 41, 3) := by decide +kernel
theorem dX6_become_21 : decode cX6_become 21 = .ok (.putfield 41, 3) := by decide +kernel
theorem dX6_become_24 : decode cX6_become 24 = .ok (.aload_n 0, 1) := by decide +kernel
theorem dX6_become_25 : decode cX6_become 25 = .ok (.aload_n 1, 1) := by decide +kernel
theorem dX6_become_26 : decode cX6_become 26 = .ok (.getfield 19, 3) := by decide +kernel
theorem dX6_become_29 : decode cX6_become 29 = .ok (.aload_n 0, 1) := by decide +kernel
theorem dX6_become_30 : decode cX6_become 30 = .ok (.getfield 19, 3) := by decide +kernel
theorem dX6_become_33 : decode cX6_become 33 = .ok (.invokevirtual 44, 3) := by decide +kernel
theorem dX6_become_36 : decode cX6_become 36 = .ok (.aload_n 0, 1) := by decide +kernel
theorem dX6_become_37 : decode cX6_become 37 = .ok (.aload_n 1, 1) := by decide +kernel
theorem dX6_become_38 : decode cX6_become 38 = .ok (.getfield 23, 3) := by decide +kernel
theorem dX6_become_41 : decode cX6_become 41 = .ok (.aload_n 0, 1) := by decide +kernel
theorem dX6_become_42 : decode cX6_become 42 = .ok (.getfield 23, 3) := by decide +kernel
theorem dX6_become_45 : decode cX6_become 45 = .ok (.invokevirtual 44, 3) := by decide +kernel
theorem dX6_become_48 : decode cX6_become 48 = .ok (.aload_n 0, 1) := by decide +kernel
theorem dX6_become_49 : decode cX6_become 49 = .ok (.aload_n 1, 1) := by decide +kernel
theorem dX6_become_50 : decode cX6_become 50 = .ok (.getfield 26, 3) := by decide +kernel
theorem dX6_become_53 : decode cX6_become 53 = .ok (.aload_n 0, 1) := by decide +kernel
theorem dX6_become_54 : decode cX6_become 54 = .ok (.getfield 26, 3) := by decide +kernel
theorem dX6_become_57 : decode cX6_become 57 = .ok (.invokevirtual 44, 3) := by decide +kernel
theorem dX6_become_60 : decode cX6_become 60 = .ok (.aload_n 0, 1) := by decide +kernel
theorem dX6_become_61 : decode cX6_become 61 = .ok (.aload_n 1, 1) := by decide +kernel
theorem dX6_become_62 : decode cX6_become 62 = .ok (.getfield 29, 3) := by decide +kernel
theorem dX6_become_65 : decode cX6_become 65 = .ok (.aload_n 0, 1) := by decide +kernel
theorem dX6_become_66 : decode cX6_become 66 = .ok (.getfield 29, 3) := by decide +kernel
theorem dX6_become_69 : decode cX6_become 69 = .ok (.invokevirtual 44, 3) := by decide +kernel
theorem dX6_become_72 : decode cX6_become 72 = .ok (.return_, 1) := by decide +kernel
theorem dX6_drop_0 : decode cX6_drop 0 = .ok (.aload_n 0, 1) := by decide +kernel
theorem dX6_drop_1 : decode cX6_drop 1 = .ok (.getfield 19, 3) := by decide +kernel
theorem dX6_drop_4 : decode cX6_drop 4 = .ok (.iload_n 1, 1) := by decide +kernel
theorem dX6_drop_5 : decode cX6_drop 5 = .ok (.dup2, 1) := by decide +kernel
theorem dX6_drop_6 : decode cX6_drop 6 = .ok (.iaload, 1) := by decide +kernel
theorem dX6_drop_7 : decode cX6_drop 7 = .ok (.iconst 1, 1) := by decide +kernel
theorem dX6_drop_8 : decode cX6_drop 8 = .ok (.iadd, 1) := by decide +kernel
theorem dX6_drop_9 : decode cX6_drop 9 = .ok (.iastore, 1) := by decide +kernel
theorem dX6_drop_10 : decode cX6_drop 10 = .ok (.aload_n 0, 1) := by decide +kernel
theorem dX6_drop_11 : decode cX6_drop 11 = .ok (.getfield 23, 3) := by decide +kernel
theorem dX6_drop_14 : decode cX6_drop 14 = .ok (.iload_n 1, 1) := by decide +kernel
theorem dX6_drop_15 : decode cX6_drop 15 = .ok (.dup2, 1) := by decide +kernel
theorem dX6_drop_16 : decode cX6_drop 16 = .ok (.iaload, 1) := by decide +kernel
theorem dX6_drop_17 : decode cX6_drop 17 = .ok (.iconst 1, 1) := by decide +kernel
theorem dX6_drop_18 : decode cX6_drop 18 = .ok (.iadd, 1) := by decide +kernel
theorem dX6_drop_19 : decode cX6_drop 19 = .ok (.iastore, 1) := by decide +kernel
theorem dX6_drop_20 : decode cX6_drop 20 = .ok (.aload_n 0, 1) := by decide +kernel
theorem dX6_drop_21 : decode cX6_drop 21 = .ok (.sipush 500, 3) := by decide +kernel
theorem dX6_drop_24 : decode cX6_drop 24 = .ok (.aload_n 0, 1) := by decide +kernel
theorem dX6_drop_25 : decode cX6_drop 25 = .ok (.getfield 15, 3) := by decide +kernel
theorem dX6_drop_28 : decode cX6_drop 28 = .ok (.aload_n 0, 1) := by decide +kernel
theorem dX6_drop_29 : decode cX6_drop 29 = .ok (.getfield 3, 3) := by decide +kernel
theorem dX6_drop_32 : decode cX6_drop 32 = .ok (.getfield 48, 3) := by decide +kernel
theorem dX6_drop_35 : decode cX6_drop 35 = .ok (.iload_n 1, 1) := by decide +kernel
theorem dX6_drop_36 : decode cX6_drop 36 = .ok (.iaload, 1) := by decide +kernel
theorem dX6_drop_37 : decode cX6_drop 37 = .ok (.bipush 10, 2) := by decide +kernel
theorem dX6_drop_39 : decode cX6_drop 39 = .ok (.idiv, 1) := by decide +kernel
theorem dX6_drop_40 : decode cX6_drop 40 = .ok (.iadd, 1) := by decide +kernel
theorem dX6_drop_41 : decode cX6_drop 41 = .ok (.invokestatic 51, 3) := by decide +kernel
theorem dX6_drop_44 : decode cX6_drop 44 = .ok (.putfield 15, 3) := by decide +kernel
theorem dX6_drop_47 : decode cX6_drop 47 = .ok (.return_, 1) := by decide +kernel
theorem dX6_next_0 : decode cX6_next 0 = .ok (.iconst (-1), 1) := by decide +kernel
theorem dX6_next_1 : decode cX6_next 1 = .ok (.istore_n 2, 1) := by decide +kernel
theorem dX6_next_2 : decode cX6_next 2 = .ok (.iconst 0, 1) := by decide +kernel
theorem dX6_next_3 : decode cX6_next 3 = .ok (.istore_n 3, 1) := by decide +kernel
theorem dX6_next_4 : decode cX6_next 4 = .ok (.iload_n 3, 1) := by decide +kernel
theorem dX6_next_5 : decode cX6_next 5 = .ok (.aload_n 0, 1) := by decide +kernel
theorem dX6_next_6 : decode cX6_next 6 = .ok (.getfield 3, 3) := by decide +kernel
theorem dX6_next_9 : decode cX6_next 9 = .ok (.getfield 57, 3) := by decide +kernel
theorem dX6_next_12 : decode cX6_next 12 = .ok (.if_icmp .ge 78, 3) := by decide +kernel
theorem dX6_next_15 : decode cX6_next 15 = .ok (.aload_n 0, 1) := by decide +kernel
theorem dX6_next_16 : decode cX6_next 16 = .ok (.getfield 26, 3) := by decide +kernel
theorem dX6_next_19 : decode cX6_next 19 = .ok (.iload_n 3, 1) := by decide +kernel
theorem dX6_next_20 : decode cX6_next 20 = .ok (.iaload, 1) := by decide +kernel
theorem dX6_next_21 : decode cX6_next 21 = .ok (.ifCond .ne 63, 3) := by decide +kernel
theorem dX6_next_24 : decode cX6_next 24 = .ok (.aload_n 0, 1) := by decide +kernel
theorem dX6_next_25 : decode cX6_next 25 = .ok (.getfield 3, 3) := by decide +kernel
theorem dX6_next_28 : decode cX6_next 28 = .ok (.getfield 60, 3) := by decide +kernel
theorem dX6_next_31 : decode cX6_next 31 = .ok (.iload_n 3, 1) := by decide +kernel
theorem dX6_next_32 : decode cX6_next 32 = .ok (.iaload, 1) := by decide +kernel
theorem dX6_next_33 : decode cX6_next 33 = .ok (.iload_n 1, 1) := by decide +kernel
theorem dX6_next_34 : decode cX6_next 34 = .ok (.if_icmp .eq 6, 3) := by decide +kernel
theorem dX6_next_37 : decode cX6_next 37 = .ok (.goto 47, 3) := by decide +kernel
theorem dX6_next_40 : decode cX6_next 40 = .ok (.iload_n 2, 1) := by decide +kernel
theorem dX6_next_41 : decode cX6_next 41 = .ok (.iconst (-1), 1) := by decide +kernel
theorem dX6_next_42 : decode cX6_next 42 = .ok (.if_icmp .eq 40, 3) := by decide +kernel
theorem dX6_next_45 : decode cX6_next 45 = .ok (.aload_n 0, 1) := by decide +kernel
theorem dX6_next_46 : decode cX6_next 46 = .ok (.getfield 3, 3) := by decide +kernel
theorem dX6_next_49 : decode cX6_next 49 = .ok (.getfield 48, 3) := by decide +kernel
theorem dX6_next_52 : decode cX6_next 52 = .ok (.aload_n 0, 1) := by decide +kernel
theorem dX6_next_53 : decode cX6_next 53 = .ok (.getfield 3, 3) := by decide +kernel
theorem dX6_next_56 : decode cX6_next 56 = .ok (.getfield 63, 3) := by decide +kernel
theorem dX6_next_59 : decode cX6_next 59 = .ok (.iload_n 3, 1) := by decide +kernel
theorem dX6_next_60 : decode cX6_next 60 = .ok (.iaload, 1) := by decide +kernel
theorem dX6_next_61 : decode cX6_next 61 = .ok (.iaload, 1) := by decide +kernel
theorem dX6_next_62 : decode cX6_next 62 = .ok (.aload_n 0, 1) := by decide +kernel
theorem dX6_next_63 : decode cX6_next 63 = .ok (.getfield 3, 3) := by decide +kernel
theorem dX6_next_66 : decode cX6_next 66 = .ok (.getfield 48, 3) := by decide +kernel
theorem dX6_next_69 : decode cX6_next 69 = .ok (.aload_n 0, 1) := by decide +kernel
theorem dX6_next_70 : decode cX6_next 70 = .ok (.getfield 3, 3) := by decide +kernel
theorem dX6_next_73 : decode cX6_next 73 = .ok (.getfield 63, 3) := by decide +kernel
theorem dX6_next_76 : decode cX6_next 76 = .ok (.iload_n 2, 1) := by decide +kernel
theorem dX6_next_77 : decode cX6_next 77 = .ok (.iaload, 1) := by decide +kernel
theorem dX6_next_78 : decode cX6_next 78 = .ok (.iaload, 1) := by decide +kernel
theorem dX6_next_79 : decode cX6_next 79 = .ok (.if_icmp .le 5, 3) := by decide +kernel
theorem dX6_next_82 : decode cX6_next 82 = .ok (.iload_n 3, 1) := by decide +kernel
theorem dX6_next_83 : decode cX6_next 83 = .ok (.istore_n 2, 1) := by decide +kernel
theorem dX6_next_84 : decode cX6_next 84 = .ok (.iinc 3 1, 3) := by decide +kernel
theorem dX6_next_87 : decode cX6_next 87 = .ok (.goto (-83), 3) := by decide +kernel
theorem dX6_next_90 : decode cX6_next 90 = .ok (.iload_n 2, 1) := by decide +kernel
theorem dX6_next_91 : decode cX6_next 91 = .ok (.ireturn, 1) := by decide +kernel
set_option maxRecDepth 20000 in
theorem ggX6_pass_X6_drop : GoodIn wsX6_pass wsX6_drop := goodIn_ca (goodIn_r _ [16, 3, 17, 5, 1, 8, 9, 10, 11, 22, 23, 24, 25, 26, 27, 28, 29, 30, 31, 32, 33, 34, 35, 36, 37, 38, 39, 40, 41, 42, 43, 44] (by decide +kernel) (by decide +kernel)) (goodIn_sub (fun _ h => List.mem_cons_of_mem _ (List.mem_append_right _ h)) (by decide +kernel))
set_option maxRecDepth 20000 in
theorem gX6_pass_X6_drop : GoodIn wsX6_pass (wsV RX6 72 RX6 yX6_drop wsX6_drop) := goodIn_app (goodIn_of _ (by decide +kernel)) ggX6_pass_X6_drop
set_option maxRecDepth 20000 in
theorem ggX6_pass_X6_next : GoodIn wsX6_pass wsX6_next := goodIn_ca (goodIn_r _ [21, 1, 6, 22, 23, 24, 25, 26, 27, 28, 29, 30, 31, 32, 33, 34, 35, 36, 37, 38, 39, 40, 41, 42, 43, 44] (by decide +kernel) (by decide +kernel)) (goodIn_sub (fun _ h => List.mem_cons_of_mem _ (List.mem_append_right _ h)) (by decide +kernel))
set_option maxRecDepth 20000 in
theorem gX6_pass_X6_next : GoodIn wsX6_pass (wsV RX6 79 RX6 yX6_next wsX6_next) := goodIn_app (goodIn_of _ (by decide +kernel)) ggX6_pass_X6_next
theorem dX6_pass_0 : decode cX6_pass 0 = .ok (.iconst 0, 1) := by decide +kernel
theorem dX6_pass_1 : decode cX6_pass 1 = .ok (.istore_n 1, 1) := by decide +kernel
theorem dX6_pass_2 : decode cX6_pass 2 = .ok (.iload_n 1, 1) := by decide +kernel
theorem dX6_pass_3 : decode cX6_pass 3 = .ok (.aload_n 0, 1) := by decide +kernel
theorem dX6_pass_4 : decode cX6_pass 4 = .ok (.getfield 3, 3) := by decide +kernel
theorem dX6_pass_7 : decode cX6_pass 7 = .ok (.getfield 66, 3) := by decide +kernel
theorem dX6_pass_10 : decode cX6_pass 10 = .ok (.aload_n 0, 1) := by decide +kernel
theorem dX6_pass_11 : decode cX6_pass 11 = .ok (.getfield 38, 3) := by decide +kernel
theorem dX6_pass_14 : decode cX6_pass 14 = .ok (.bipush 7, 2) := by decide +kernel
theorem dX6_pass_16 : decode cX6_pass 16 = .ok (.irem, 1) := by decide +kernel
theorem dX6_pass_17 : decode cX6_pass 17 = .ok (.iaload, 1) := by decide +kernel
theorem dX6_pass_18 : decode cX6_pass 18 = .ok (.if_icmp .ge 37, 3) := by decide +kernel
theorem dX6_pass_21 : decode cX6_pass 21 = .ok (.aload_n 0, 1) := by decide +kernel
theorem dX6_pass_22 : decode cX6_pass 22 = .ok (.getfield 3, 3) := by decide +kernel
theorem dX6_pass_25 : decode cX6_pass 25 = .ok (.getfield 69, 3) := by decide +kernel
theorem dX6_pass_28 : decode cX6_pass 28 = .ok (.ifCond .le 27, 3) := by decide +kernel
theorem dX6_pass_31 : decode cX6_pass 31 = .ok (.aload_n 0, 1) := by decide +kernel
theorem dX6_pass_32 : decode cX6_pass 32 = .ok (.aload_n 0, 1) := by decide +kernel
theorem dX6_pass_33 : decode cX6_pass 33 = .ok (.getfield 38, 3) := by decide +kernel
theorem dX6_pass_36 : decode cX6_pass 36 = .ok (.iload_n 1, 1) := by decide +kernel
theorem dX6_pass_37 : decode cX6_pass 37 = .ok (.iadd, 1) := by decide +kernel
theorem dX6_pass_38 : decode cX6_pass 38 = .ok (.aload_n 0, 1) := by decide +kernel
theorem dX6_pass_39 : decode cX6_pass 39 = .ok (.getfield 3, 3) := by decide +kernel
theorem dX6_pass_42 : decode cX6_pass 42 = .ok (.getfield 69, 3) := by decide +kernel
theorem dX6_pass_45 : decode cX6_pass 45 = .ok (.irem, 1) := by decide +kernel
theorem dX6_pass_46 : decode cX6_pass 46 = .ok (.invokevirtual 72, 3) := by decide +kernel
theorem dX6_pass_49 : decode cX6_pass 49 = .ok (.iinc 1 1, 3) := by decide +kernel
theorem dX6_pass_52 : decode cX6_pass 52 = .ok (.goto (-50), 3) := by decide +kernel
theorem dX6_pass_55 : decode cX6_pass 55 = .ok (.bipush 23, 2) := by decide +kernel
theorem dX6_pass_57 : decode cX6_pass 57 = .ok (.istore_n 1, 1) := by decide +kernel
theorem dX6_pass_58 : decode cX6_pass 58 = .ok (.iload_n 1, 1) := by decide +kernel
theorem dX6_pass_59 : decode cX6_pass 59 = .ok (.ifCond .lt 61, 3) := by decide +kernel
theorem dX6_pass_62 : decode cX6_pass 62 = .ok (.aload_n 0, 1) := by decide +kernel
theorem dX6_pass_63 : decode cX6_pass 63 = .ok (.getfield 19, 3) := by decide +kernel
theorem dX6_pass_66 : decode cX6_pass 66 = .ok (.iload_n 1, 1) := by decide +kernel
theorem dX6_pass_67 : decode cX6_pass 67 = .ok (.iaload, 1) := by decide +kernel
theorem dX6_pass_68 : decode cX6_pass 68 = .ok (.aload_n 0, 1) := by decide +kernel
theorem dX6_pass_69 : decode cX6_pass 69 = .ok (.getfield 3, 3) := by decide +kernel
theorem dX6_pass_72 : decode cX6_pass 72 = .ok (.getfield 76, 3) := by decide +kernel
theorem dX6_pass_75 : decode cX6_pass 75 = .ok (.iload_n 1, 1) := by decide +kernel
theorem dX6_pass_76 : decode cX6_pass 76 = .ok (.bipush 6, 2) := by decide +kernel
theorem dX6_pass_78 : decode cX6_pass 78 = .ok (.irem, 1) := by decide +kernel
theorem dX6_pass_79 : decode cX6_pass 79 = .ok (.iaload, 1) := by decide +kernel
theorem dX6_pass_80 : decode cX6_pass 80 = .ok (.iconst 4, 1) := by decide +kernel
theorem dX6_pass_81 : decode cX6_pass 81 = .ok (.if_icmp .lt 7, 3) := by decide +kernel
theorem dX6_pass_84 : decode cX6_pass 84 = .ok (.iconst 2, 1) := by decide +kernel
theorem dX6_pass_85 : decode cX6_pass 85 = .ok (.goto 4, 3) := by decide +kernel
theorem dX6_pass_88 : decode cX6_pass 88 = .ok (.iconst 4, 1) := by decide +kernel
theorem dX6_pass_89 : decode cX6_pass 89 = .ok (.idiv, 1) := by decide +kernel
theorem dX6_pass_90 : decode cX6_pass 90 = .ok (.istore_n 2, 1) := by decide +kernel
theorem dX6_pass_91 : decode cX6_pass 91 = .ok (.aload_n 0, 1) := by decide +kernel
theorem dX6_pass_92 : decode cX6_pass 92 = .ok (.getfield 19, 3) := by decide +kernel
theorem dX6_pass_95 : decode cX6_pass 95 = .ok (.iload_n 1, 1) := by decide +kernel
theorem dX6_pass_96 : decode cX6_pass 96 = .ok (.dup2, 1) := by decide +kernel
theorem dX6_pass_97 : decode cX6_pass 97 = .ok (.iaload, 1) := by decide +kernel
theorem dX6_pass_98 : decode cX6_pass 98 = .ok (.iload_n 2, 1) := by decide +kernel
theorem dX6_pass_99 : decode cX6_pass 99 = .ok (.isub, 1) := by decide +kernel
theorem dX6_pass_100 : decode cX6_pass 100 = .ok (.iastore, 1) := by decide +kernel
theorem dX6_pass_101 : decode cX6_pass 101 = .ok (.aload_n 0, 1) := by decide +kernel
theorem dX6_pass_102 : decode cX6_pass 102 = .ok (.getfield 19, 3) := by decide +kernel
theorem dX6_pass_105 : decode cX6_pass 105 = .ok (.iload_n 1, 1) := by decide +kernel
theorem dX6_pass_106 : decode cX6_pass 106 = .ok (.bipush 6, 2) := by decide +kernel
theorem dX6_pass_108 : decode cX6_pass 108 = .ok (.iadd, 1) := by decide +kernel
theorem dX6_pass_109 : decode cX6_pass 109 = .ok (.dup2, 1) := by decide +kernel
theorem dX6_pass_110 : decode cX6_pass 110 = .ok (.iaload, 1) := by decide +kernel
theorem dX6_pass_111 : decode cX6_pass 111 = .ok (.iload_n 2, 1) := by decide +kernel
theorem dX6_pass_112 : decode cX6_pass 112 = .ok (.iadd, 1) := by decide +kernel
theorem dX6_pass_113 : decode cX6_pass 113 = .ok (.iastore, 1) := by decide +kernel
theorem dX6_pass_114 : decode cX6_pass 114 = .ok (.iinc 1 (-1), 3) := by decide +kernel
theorem dX6_pass_117 : decode cX6_pass 117 = .ok (.goto (-59), 3) := by decide +kernel
theorem dX6_pass_120 : decode cX6_pass 120 = .ok (.aload_n 0, 1) := by decide +kernel
theorem dX6_pass_121 : decode cX6_pass 121 = .ok (.aload_n 0, 1) := by decide +kernel
theorem dX6_pass_122 : decode cX6_pass 122 = .ok (.getfield 41, 3) := by decide +kernel
theorem dX6_pass_125 : decode cX6_pass 125 = .ok (.invokevirtual 79, 3) := by decide +kernel
theorem dX6_pass_128 : decode cX6_pass 128 = .ok (.istore_n 1, 1) := by decide +kernel
theorem dX6_pass_129 : decode cX6_pass 129 = .ok (.iload_n 1, 1) := by decide +kernel
theorem dX6_pass_130 : decode cX6_pass 130 = .ok (.iconst (-1), 1) := by decide +kernel
theorem dX6_pass_131 : decode cX6_pass 131 = .ok (.if_icmp .eq 34, 3) := by decide +kernel
theorem dX6_pass_134 : decode cX6_pass 134 = .ok (.aload_n 0, 1) := by decide +kernel
theorem dX6_pass_135 : decode cX6_pass 135 = .ok (.getfield 15, 3) := by decide +kernel
theorem dX6_pass_138 : decode cX6_pass 138 = .ok (.bipush 10, 2) := by decide +kernel
theorem dX6_pass_140 : decode cX6_pass 140 = .ok (.aload_n 0, 1) := by decide +kernel
theorem dX6_pass_141 : decode cX6_pass 141 = .ok (.getfield 3, 3) := by decide +kernel
theorem dX6_pass_144 : decode cX6_pass 144 = .ok (.getfield 48, 3) := by decide +kernel
theorem dX6_pass_147 : decode cX6_pass 147 = .ok (.aload_n 0, 1) := by decide +kernel
theorem dX6_pass_148 : decode cX6_pass 148 = .ok (.getfield 3, 3) := by decide +kernel
theorem dX6_pass_151 : decode cX6_pass 151 = .ok (.getfield 63, 3) := by decide +kernel
theorem dX6_pass_154 : decode cX6_pass 154 = .ok (.iload_n 1, 1) := by decide +kernel
theorem dX6_pass_155 : decode cX6_pass 155 = .ok (.iaload, 1) := by decide +kernel
theorem dX6_pass_156 : decode cX6_pass 156 = .ok (.iaload, 1) := by decide +kernel
theorem dX6_pass_157 : decode cX6_pass 157 = .ok (.iadd, 1) := by decide +kernel
theorem dX6_pass_158 : decode cX6_pass 158 = .ok (.if_icmp .lt 7, 3) := by decide +kernel
theorem dX6_pass_161 : decode cX6_pass 161 = .ok (.iconst 1, 1) := by decide +kernel
theorem dX6_pass_162 : decode cX6_pass 162 = .ok (.goto 4, 3) := by decide +kernel
theorem dX6_pass_165 : decode cX6_pass 165 = .ok (.iconst 0, 1) := by decide +kernel
theorem dX6_pass_166 : decode cX6_pass 166 = .ok (.istore_n 2, 1) := by decide +kernel
theorem dX6_pass_167 : decode cX6_pass 167 = .ok (.iload_n 2, 1) := by decide +kernel
theorem dX6_pass_168 : decode cX6_pass 168 = .ok (.ifCond .eq 52, 3) := by decide +kernel
theorem dX6_pass_171 : decode cX6_pass 171 = .ok (.aload_n 0, 1) := by decide +kernel
theorem dX6_pass_172 : decode cX6_pass 172 = .ok (.dup, 1) := by decide +kernel
theorem dX6_pass_173 : decode cX6_pass 173 = .ok (.getfield 15, 3) := by decide +kernel
theorem dX6_pass_176 : decode cX6_pass 176 = .ok (.bipush 10, 2) := by decide +kernel
theorem dX6_pass_178 : decode cX6_pass 178 = .ok (.aload_n 0, 1) := by decide +kernel
theorem dX6_pass_179 : decode cX6_pass 179 = .ok (.getfield 3, 3) := by decide +kernel
theorem dX6_pass_182 : decode cX6_pass 182 = .ok (.getfield 48, 3) := by decide +kernel
theorem dX6_pass_185 : decode cX6_pass 185 = .ok (.aload_n 0, 1) := by decide +kernel
theorem dX6_pass_186 : decode cX6_pass 186 = .ok (.getfield 3, 3) := by decide +kernel
theorem dX6_pass_189 : decode cX6_pass 189 = .ok (.getfield 63, 3) := by decide +kernel
theorem dX6_pass_192 : decode cX6_pass 192 = .ok (.iload_n 1, 1) := by decide +kernel
theorem dX6_pass_193 : decode cX6_pass 193 = .ok (.iaload, 1) := by decide +kernel
theorem dX6_pass_194 : decode cX6_pass 194 = .ok (.iaload, 1) := by decide +kernel
theorem dX6_pass_195 : decode cX6_pass 195 = .ok (.iadd, 1) := by decide +kernel
theorem dX6_pass_196 : decode cX6_pass 196 = .ok (.isub, 1) := by decide +kernel
theorem dX6_pass_197 : decode cX6_pass 197 = .ok (.putfield 15, 3) := by decide +kernel
theorem dX6_pass_200 : decode cX6_pass 200 = .ok (.aload_n 0, 1) := by decide +kernel
theorem dX6_pass_201 : decode cX6_pass 201 = .ok (.getfield 26, 3) := by decide +kernel
theorem dX6_pass_204 : decode cX6_pass 204 = .ok (.iload_n 1, 1) := by decide +kernel
theorem dX6_pass_205 : decode cX6_pass 205 = .ok (.iconst 1, 1) := by decide +kernel
theorem dX6_pass_206 : decode cX6_pass 206 = .ok (.iastore, 1) := by decide +kernel
theorem dX6_pass_207 : decode cX6_pass 207 = .ok (.aload_n 0, 1) := by decide +kernel
theorem dX6_pass_208 : decode cX6_pass 208 = .ok (.getfield 29, 3) := by decide +kernel
theorem dX6_pass_211 : decode cX6_pass 211 = .ok (.iload_n 1, 1) := by decide +kernel
theorem dX6_pass_212 : decode cX6_pass 212 = .ok (.aload_n 0, 1) := by decide +kernel
theorem dX6_pass_213 : decode cX6_pass 213 = .ok (.getfield 38, 3) := by decide +kernel
theorem dX6_pass_216 : decode cX6_pass 216 = .ok (.iastore, 1) := by decide +kernel
theorem dX6_pass_217 : decode cX6_pass 217 = .ok (.goto 19, 3) := by decide +kernel
theorem dX6_pass_220 : decode cX6_pass 220 = .ok (.aload_n 0, 1) := by decide +kernel
theorem dX6_pass_221 : decode cX6_pass 221 = .ok (.sipush 500, 3) := by decide +kernel
theorem dX6_pass_224 : decode cX6_pass 224 = .ok (.aload_n 0, 1) := by decide +kernel
theorem dX6_pass_225 : decode cX6_pass 225 = .ok (.getfield 15, 3) := by decide +kernel
theorem dX6_pass_228 : decode cX6_pass 228 = .ok (.iconst 2, 1) := by decide +kernel
theorem dX6_pass_229 : decode cX6_pass 229 = .ok (.iadd, 1) := by decide +kernel
theorem dX6_pass_230 : decode cX6_pass 230 = .ok (.invokestatic 51, 3) := by decide +kernel
theorem dX6_pass_233 : decode cX6_pass 233 = .ok (.putfield 15, 3) := by decide +kernel
theorem dX6_pass_236 : decode cX6_pass 236 = .ok (.aload_n 0, 1) := by decide +kernel
theorem dX6_pass_237 : decode cX6_pass 237 = .ok (.aload_n 0, 1) := by decide +kernel
theorem dX6_pass_238 : decode cX6_pass 238 = .ok (.getfield 41, 3) := by decide +kernel
theorem dX6_pass_241 : decode cX6_pass 241 = .ok (.iconst 1, 1) := by decide +kernel
theorem dX6_pass_242 : decode cX6_pass 242 = .ok (.iadd, 1) := by decide +kernel
theorem dX6_pass_243 : decode cX6_pass 243 = .ok (.iconst 4, 1) := by decide +kernel
theorem dX6_pass_244 : decode cX6_pass 244 = .ok (.irem, 1) := by decide +kernel
theorem dX6_pass_245 : decode cX6_pass 245 = .ok (.putfield 41, 3) := by decide +kernel
theorem dX6_pass_248 : decode cX6_pass 248 = .ok (.aload_n 0, 1) := by decide +kernel
theorem dX6_pass_249 : decode cX6_pass 249 = .ok (.dup, 1) := by decide +kernel
theorem dX6_pass_250 : decode cX6_pass 250 = .ok (.getfield 38, 3) := by decide +kernel
theorem dX6_pass_253 : decode cX6_pass 253 = .ok (.iconst 1, 1) := by decide +kernel
theorem dX6_pass_254 : decode cX6_pass 254 = .ok (.iadd, 1) := by decide +kernel
theorem dX6_pass_255 : decode cX6_pass 255 = .ok (.putfield 38, 3) := by decide +kernel
theorem dX6_pass_258 : decode cX6_pass 258 = .ok (.iload_n 2, 1) := by decide +kernel
theorem dX6_pass_259 : decode cX6_pass 259 = .ok (.ireturn, 1) := by decide +kernel
theorem dX6_coins_0 : decode cX6_coins 0 = .ok (.iconst 0, 1) := by decide +kernel
theorem dX6_coins_1 : decode cX6_coins 1 = .ok (.istore_n 2, 1) := by decide +kernel
theorem dX6_coins_2 : decode cX6_coins 2 = .ok (.bipush 6, 2) := by decide +kernel
theorem dX6_coins_4 : decode cX6_coins 4 = .ok (.iload_n 1, 1) := by decide +kernel
theorem dX6_coins_5 : decode cX6_coins 5 = .ok (.imul, 1) := by decide +kernel
theorem dX6_coins_6 : decode cX6_coins 6 = .ok (.istore_n 3, 1) := by decide +kernel
theorem dX6_coins_7 : decode cX6_coins 7 = .ok (.iload_n 3, 1) := by decide +kernel
theorem dX6_coins_8 : decode cX6_coins 8 = .ok (.bipush 6, 2) := by decide +kernel
theorem dX6_coins_10 : decode cX6_coins 10 = .ok (.iload_n 1, 1) := by decide +kernel
theorem dX6_coins_11 : decode cX6_coins 11 = .ok (.imul, 1) := by decide +kernel
theorem dX6_coins_12 : decode cX6_coins 12 = .ok (.bipush 6, 2) := by decide +kernel
theorem dX6_coins_14 : decode cX6_coins 14 = .ok (.iadd, 1) := by decide +kernel
theorem dX6_coins_15 : decode cX6_coins 15 = .ok (.if_icmp .ge 18, 3) := by decide +kernel
theorem dX6_coins_18 : decode cX6_coins 18 = .ok (.iload_n 2, 1) := by decide +kernel
theorem dX6_coins_19 : decode cX6_coins 19 = .ok (.aload_n 0, 1) := by decide +kernel
theorem dX6_coins_20 : decode cX6_coins 20 = .ok (.getfield 19, 3) := by decide +kernel
theorem dX6_coins_23 : decode cX6_coins 23 = .ok (.iload_n 3, 1) := by decide +kernel
theorem dX6_coins_24 : decode cX6_coins 24 = .ok (.iaload, 1) := by decide +kernel
theorem dX6_coins_25 : decode cX6_coins 25 = .ok (.iadd, 1) := by decide +kernel
theorem dX6_coins_26 : decode cX6_coins 26 = .ok (.istore_n 2, 1) := by decide +kernel
theorem dX6_coins_27 : decode cX6_coins 27 = .ok (.iinc 3 1, 3) := by decide +kernel
theorem dX6_coins_30 : decode cX6_coins 30 = .ok (.goto (-23), 3) := by decide +kernel
theorem dX6_coins_33 : decode cX6_coins 33 = .ok (.iload_n 2, 1) := by decide +kernel
theorem dX6_coins_34 : decode cX6_coins 34 = .ok (.ireturn, 1) := by decide +kernel
theorem dX6_worth_0 : decode cX6_worth 0 = .ok (.iconst 0, 1) := by decide +kernel
theorem dX6_worth_1 : decode cX6_worth 1 = .ok (.istore_n 2, 1) := by decide +kernel
theorem dX6_worth_2 : decode cX6_worth 2 = .ok (.iconst 0, 1) := by decide +kernel
theorem dX6_worth_3 : decode cX6_worth 3 = .ok (.istore_n 3, 1) := by decide +kernel
theorem dX6_worth_4 : decode cX6_worth 4 = .ok (.iload_n 3, 1) := by decide +kernel
theorem dX6_worth_5 : decode cX6_worth 5 = .ok (.bipush 6, 2) := by decide +kernel
theorem dX6_worth_7 : decode cX6_worth 7 = .ok (.if_icmp .ge 33, 3) := by decide +kernel
theorem dX6_worth_10 : decode cX6_worth 10 = .ok (.iload_n 2, 1) := by decide +kernel
theorem dX6_worth_11 : decode cX6_worth 11 = .ok (.aload_n 0, 1) := by decide +kernel
theorem dX6_worth_12 : decode cX6_worth 12 = .ok (.getfield 3, 3) := by decide +kernel
theorem dX6_worth_15 : decode cX6_worth 15 = .ok (.getfield 48, 3) := by decide +kernel
theorem dX6_worth_18 : decode cX6_worth 18 = .ok (.iload_n 3, 1) := by decide +kernel
theorem dX6_worth_19 : decode cX6_worth 19 = .ok (.iaload, 1) := by decide +kernel
theorem dX6_worth_20 : decode cX6_worth 20 = .ok (.aload_n 0, 1) := by decide +kernel
theorem dX6_worth_21 : decode cX6_worth 21 = .ok (.getfield 19, 3) := by decide +kernel
theorem dX6_worth_24 : decode cX6_worth 24 = .ok (.bipush 6, 2) := by decide +kernel
theorem dX6_worth_26 : decode cX6_worth 26 = .ok (.iload_n 1, 1) := by decide +kernel
theorem dX6_worth_27 : decode cX6_worth 27 = .ok (.imul, 1) := by decide +kernel
theorem dX6_worth_28 : decode cX6_worth 28 = .ok (.iload_n 3, 1) := by decide +kernel
theorem dX6_worth_29 : decode cX6_worth 29 = .ok (.iadd, 1) := by decide +kernel
theorem dX6_worth_30 : decode cX6_worth 30 = .ok (.iaload, 1) := by decide +kernel
theorem dX6_worth_31 : decode cX6_worth 31 = .ok (.imul, 1) := by decide +kernel
theorem dX6_worth_32 : decode cX6_worth 32 = .ok (.iadd, 1) := by decide +kernel
theorem dX6_worth_33 : decode cX6_worth 33 = .ok (.istore_n 2, 1) := by decide +kernel
theorem dX6_worth_34 : decode cX6_worth 34 = .ok (.iinc 3 1, 3) := by decide +kernel
theorem dX6_worth_37 : decode cX6_worth 37 = .ok (.goto (-33), 3) := by decide +kernel
theorem dX6_worth_40 : decode cX6_worth 40 = .ok (.iload_n 2, 1) := by decide +kernel
theorem dX6_worth_41 : decode cX6_worth 41 = .ok (.ireturn, 1) := by decide +kernel
set_option maxRecDepth 20000 in
theorem ggX6_allWorth_X6_worth : GoodIn wsX6_allWorth wsX6_worth := goodIn_ca (goodIn_r _ [5, 6, 7, 8, 9, 10, 11, 12, 13, 14, 15, 16, 17, 18, 19, 20, 21, 22, 23, 24, 25, 26, 27, 28, 29, 30] (by decide +kernel) (by decide +kernel)) (goodIn_sub (fun _ h => List.mem_cons_of_mem _ (List.mem_append_right _ h)) (by decide +kernel))
set_option maxRecDepth 20000 in
theorem gX6_allWorth_X6_worth : GoodIn wsX6_allWorth (wsV RX6 83 RX6 yX6_worth wsX6_worth) := goodIn_app (goodIn_of _ (by decide +kernel)) ggX6_allWorth_X6_worth
theorem dX6_allWorth_0 : decode cX6_allWorth 0 = .ok (.iconst 0, 1) := by decide +kernel
theorem dX6_allWorth_1 : decode cX6_allWorth 1 = .ok (.istore_n 1, 1) := by decide +kernel
theorem dX6_allWorth_2 : decode cX6_allWorth 2 = .ok (.iconst 0, 1) := by decide +kernel
theorem dX6_allWorth_3 : decode cX6_allWorth 3 = .ok (.istore_n 2, 1) := by decide +kernel
theorem dX6_allWorth_4 : decode cX6_allWorth 4 = .ok (.iload_n 2, 1) := by decide +kernel
theorem dX6_allWorth_5 : decode cX6_allWorth 5 = .ok (.iconst 5, 1) := by decide +kernel
theorem dX6_allWorth_6 : decode cX6_allWorth 6 = .ok (.if_icmp .ge 17, 3) := by decide +kernel
theorem dX6_allWorth_9 : decode cX6_allWorth 9 = .ok (.iload_n 1, 1) := by decide +kernel
theorem dX6_allWorth_10 : decode cX6_allWorth 10 = .ok (.aload_n 0, 1) := by decide +kernel
theorem dX6_allWorth_11 : decode cX6_allWorth 11 = .ok (.iload_n 2, 1) := by decide +kernel
theorem dX6_allWorth_12 : decode cX6_allWorth 12 = .ok (.invokevirtual 83, 3) := by decide +kernel
theorem dX6_allWorth_15 : decode cX6_allWorth 15 = .ok (.iadd, 1) := by decide +kernel
theorem dX6_allWorth_16 : decode cX6_allWorth 16 = .ok (.istore_n 1, 1) := by decide +kernel
theorem dX6_allWorth_17 : decode cX6_allWorth 17 = .ok (.iinc 2 1, 3) := by decide +kernel
theorem dX6_allWorth_20 : decode cX6_allWorth 20 = .ok (.goto (-16), 3) := by decide +kernel
theorem dX6_allWorth_23 : decode cX6_allWorth 23 = .ok (.iload_n 1, 1) := by decide +kernel
theorem dX6_allWorth_24 : decode cX6_allWorth 24 = .ok (.ireturn, 1) := by decide +kernel
theorem dX6_all_0 : decode cX6_all 0 = .ok (.iconst 0, 1) := by decide +kernel
theorem dX6_all_1 : decode cX6_all 1 = .ok (.istore_n 2, 1) := by decide +kernel
theorem dX6_all_2 : decode cX6_all 2 = .ok (.iload_n 1, 1) := by decide +kernel
theorem dX6_all_3 : decode cX6_all 3 = .ok (.istore_n 3, 1) := by decide +kernel
theorem dX6_all_4 : decode cX6_all 4 = .ok (.iload_n 3, 1) := by decide +kernel
theorem dX6_all_5 : decode cX6_all 5 = .ok (.bipush 30, 2) := by decide +kernel
theorem dX6_all_7 : decode cX6_all 7 = .ok (.if_icmp .ge 18, 3) := by decide +kernel
theorem dX6_all_10 : decode cX6_all 10 = .ok (.iload_n 2, 1) := by decide +kernel
theorem dX6_all_11 : decode cX6_all 11 = .ok (.aload_n 0, 1) := by decide +kernel
theorem dX6_all_12 : decode cX6_all 12 = .ok (.getfield 19, 3) := by decide +kernel
theorem dX6_all_15 : decode cX6_all 15 = .ok (.iload_n 3, 1) := by decide +kernel
theorem dX6_all_16 : decode cX6_all 16 = .ok (.iaload, 1) := by decide +kernel
theorem dX6_all_17 : decode cX6_all 17 = .ok (.iadd, 1) := by decide +kernel
theorem dX6_all_18 : decode cX6_all 18 = .ok (.istore_n 2, 1) := by decide +kernel
theorem dX6_all_19 : decode cX6_all 19 = .ok (.iinc 3 6, 3) := by decide +kernel
theorem dX6_all_22 : decode cX6_all 22 = .ok (.goto (-18), 3) := by decide +kernel
theorem dX6_all_25 : decode cX6_all 25 = .ok (.iload_n 2, 1) := by decide +kernel
theorem dX6_all_26 : decode cX6_all 26 = .ok (.ireturn, 1) := by decide +kernel
set_option maxRecDepth 20000 in
theorem ggX7_init_X6_init : GoodIn wsX7_init wsX6_init := goodIn_r _ [19, 20, 21, 2, 3, 22, 4, 23, 24, 25, 26, 42, 43, 44, 45, 46, 47, 48, 49] (by decide +kernel) (by decide +kernel)
set_option maxRecDepth 20000 in
theorem gX7_init_X6_init_n36 : GoodIn wsX7_init (wsX6_init) := ggX7_init_X6_init
theorem dX7_init_0 : decode cX7_init 0 = .ok (.aload_n 0, 1) := by decide +kernel
theorem dX7_init_1 : decode cX7_init 1 = .ok (.invokespecial 1, 3) := by decide +kernel
theorem dX7_init_4 : decode cX7_init 4 = .ok (.aload_n 0, 1) := by decide +kernel
theorem dX7_init_5 : decode cX7_init 5 = .ok (.bipush 6, 2) := by decide +kernel
theorem dX7_init_7 : decode cX7_init 7 = .ok (.newarray .int, 2) := by decide +kernel
theorem dX7_init_9 : decode cX7_init 9 = .ok (.putfield 9, 3) := by decide +kernel
theorem dX7_init_12 : decode cX7_init 12 = .ok (.aload_n 0, 1) := by decide +kernel
theorem dX7_init_13 : decode cX7_init 13 = .ok (.bipush 6, 2) := by decide +kernel
theorem dX7_init_15 : decode cX7_init 15 = .ok (.newarray .int, 2) := by decide +kernel
theorem dX7_init_17 : decode cX7_init 17 = .ok (.putfield 13, 3) := by decide +kernel
theorem dX7_init_20 : decode cX7_init 20 = .ok (.aload_n 0, 1) := by decide +kernel
theorem dX7_init_21 : decode cX7_init 21 = .ok (.bipush 7, 2) := by decide +kernel
theorem dX7_init_23 : decode cX7_init 23 = .ok (.newarray .int, 2) := by decide +kernel
theorem dX7_init_25 : decode cX7_init 25 = .ok (.putfield 16, 3) := by decide +kernel
theorem dX7_init_28 : decode cX7_init 28 = .ok (.aload_n 0, 1) := by decide +kernel
theorem dX7_init_29 : decode cX7_init 29 = .ok (.bipush 6, 2) := by decide +kernel
theorem dX7_init_31 : decode cX7_init 31 = .ok (.newarray .int, 2) := by decide +kernel
theorem dX7_init_33 : decode cX7_init 33 = .ok (.putfield 19, 3) := by decide +kernel
theorem dX7_init_36 : decode cX7_init 36 = .ok (.aload_n 0, 1) := by decide +kernel
theorem dX7_init_37 : decode cX7_init 37 = .ok (.bipush 6, 2) := by decide +kernel
theorem dX7_init_39 : decode cX7_init 39 = .ok (.newarray .int, 2) := by decide +kernel
theorem dX7_init_41 : decode cX7_init 41 = .ok (.putfield 22, 3) := by decide +kernel
theorem dX7_init_44 : decode cX7_init 44 = .ok (.aload_n 0, 1) := by decide +kernel
theorem dX7_init_45 : decode cX7_init 45 = .ok (.bipush 24, 2) := by decide +kernel
theorem dX7_init_47 : decode cX7_init 47 = .ok (.newarray .int, 2) := by decide +kernel
theorem dX7_init_49 : decode cX7_init 49 = .ok (.putfield 25, 3) := by decide +kernel
theorem dX7_init_52 : decode cX7_init 52 = .ok (.aload_n 0, 1) := by decide +kernel
theorem dX7_init_53 : decode cX7_init 53 = .ok (.bipush 24, 2) := by decide +kernel
theorem dX7_init_55 : decode cX7_init 55 = .ok (.newarray .int, 2) := by decide +kernel
theorem dX7_init_57 : decode cX7_init 57 = .ok (.putfield 28, 3) := by decide +kernel
theorem dX7_init_60 : decode cX7_init 60 = .ok (.aload_n 0, 1) := by decide +kernel
theorem dX7_init_61 : decode cX7_init 61 = .ok (.bipush 24, 2) := by decide +kernel
theorem dX7_init_63 : decode cX7_init 63 = .ok (.newarray .int, 2) := by decide +kernel
theorem dX7_init_65 : decode cX7_init 65 = .ok (.putfield 31, 3) := by decide +kernel
theorem dX7_init_68 : decode cX7_init 68 = .ok (.aload_n 0, 1) := by decide +kernel
theorem dX7_init_69 : decode cX7_init 69 = .ok (.new 34, 3) := by decide +kernel
theorem dX7_init_72 : decode cX7_init 72 = .ok (.dup, 1) := by decide +kernel
theorem dX7_init_73 : decode cX7_init 73 = .ok (.aload_n 0, 1) := by decide +kernel
theorem dX7_init_74 : decode cX7_init 74 = .ok (.invokespecial 36, 3) := by decide +kernel
theorem dX7_init_77 : decode cX7_init 77 = .ok (.putfield 39, 3) := by decide +kernel
theorem dX7_init_80 : decode cX7_init 80 = .ok (.aload_n 0, 1) := by decide +kernel
theorem dX7_init_81 : decode cX7_init 81 = .ok (.new 34, 3) := by decide +kernel
theorem dX7_init_84 : decode cX7_init 84 = .ok (.dup, 1) := by decide +kernel
theorem dX7_init_85 : decode cX7_init 85 = .ok (.aload_n 0, 1) := by decide +kernel
theorem dX7_init_86 : decode cX7_init 86 = .ok (.invokespecial 36, 3) := by decide +kernel
theorem dX7_init_89 : decode cX7_init 89 = .ok (.putfield 43, 3) := by decide +kernel
theorem dX7_init_92 : decode cX7_init 92 = .ok (.return_, 1) := by decide +kernel
theorem dX7_thrown_0 : decode cX7_thrown 0 = .ok (.aload_n 0, 1) := by decide +kernel
theorem dX7_thrown_1 : decode cX7_thrown 1 = .ok (.getfield 46, 3) := by decide +kernel
theorem dX7_thrown_4 : decode cX7_thrown 4 = .ok (.ireturn, 1) := by decide +kernel
theorem dX7_no_0 : decode cX7_no 0 = .ok (.aload_n 0, 1) := by decide +kernel
theorem dX7_no_1 : decode cX7_no 1 = .ok (.iload_n 1, 1) := by decide +kernel
theorem dX7_no_2 : decode cX7_no 2 = .ok (.putfield 46, 3) := by decide +kernel
theorem dX7_no_5 : decode cX7_no 5 = .ok (.iconst 0, 1) := by decide +kernel
theorem dX7_no_6 : decode cX7_no 6 = .ok (.ireturn, 1) := by decide +kernel
theorem dX7_isIn_0 : decode cX7_isIn 0 = .ok (.iload_n 0, 1) := by decide +kernel
theorem dX7_isIn_1 : decode cX7_isIn 1 = .ok (.iload_n 1, 1) := by decide +kernel
theorem dX7_isIn_2 : decode cX7_isIn 2 = .ok (.if_icmp .lt 12, 3) := by decide +kernel
theorem dX7_isIn_5 : decode cX7_isIn 5 = .ok (.iload_n 0, 1) := by decide +kernel
theorem dX7_isIn_6 : decode cX7_isIn 6 = .ok (.iload_n 2, 1) := by decide +kernel
theorem dX7_isIn_7 : decode cX7_isIn 7 = .ok (.if_icmp .gt 7, 3) := by decide +kernel
theorem dX7_isIn_10 : decode cX7_isIn 10 = .ok (.iconst 1, 1) := by decide +kernel
theorem dX7_isIn_11 : decode cX7_isIn 11 = .ok (.goto 4, 3) := by decide +kernel
theorem dX7_isIn_14 : decode cX7_isIn 14 = .ok (.iconst 0, 1) := by decide +kernel
theorem dX7_isIn_15 : decode cX7_isIn 15 = .ok (.ireturn, 1) := by decide +kernel
set_option maxRecDepth 20000 in
theorem ggX7_isLand_X7_isIn : GoodIn wsX7_isLand wsX7_isIn := goodIn_r _ [5] (by decide +kernel) (by decide +kernel)
set_option maxRecDepth 20000 in
theorem gX7_isLand_X7_isIn : GoodIn wsX7_isLand (va_wsS RX7 53 yX7_isIn wsX7_isIn) := goodIn_app (goodIn_of _ (by decide +kernel)) ggX7_isLand_X7_isIn
theorem dX7_isLand_0 : decode cX7_isLand 0 = .ok (.iload_n 1, 1) := by decide +kernel
theorem dX7_isLand_1 : decode cX7_isLand 1 = .ok (.iconst 0, 1) := by decide +kernel
theorem dX7_isLand_2 : decode cX7_isLand 2 = .ok (.aload_n 0, 1) := by decide +kernel
theorem dX7_isLand_3 : decode cX7_isLand 3 = .ok (.getfield 50, 3) := by decide +kernel
theorem dX7_isLand_6 : decode cX7_isLand 6 = .ok (.iconst 1, 1) := by decide +kernel
theorem dX7_isLand_7 : decode cX7_isLand 7 = .ok (.isub, 1) := by decide +kernel
theorem dX7_isLand_8 : decode cX7_isLand 8 = .ok (.invokestatic 53, 3) := by decide +kernel
theorem dX7_isLand_11 : decode cX7_isLand 11 = .ok (.ireturn, 1) := by decide +kernel
set_option maxRecDepth 20000 in
theorem ggX7_isWish_X7_isIn : GoodIn wsX7_isWish wsX7_isIn := goodIn_r _ [5] (by decide +kernel) (by decide +kernel)
set_option maxRecDepth 20000 in
theorem gX7_isWish_X7_isIn : GoodIn wsX7_isWish (va_wsS RX7 53 yX7_isIn wsX7_isIn) := goodIn_app (goodIn_of _ (by decide +kernel)) ggX7_isWish_X7_isIn
theorem dX7_isWish_0 : decode cX7_isWish 0 = .ok (.iload_n 1, 1) := by decide +kernel
theorem dX7_isWish_1 : decode cX7_isWish 1 = .ok (.iconst 0, 1) := by decide +kernel
theorem dX7_isWish_2 : decode cX7_isWish 2 = .ok (.aload_n 0, 1) := by decide +kernel
theorem dX7_isWish_3 : decode cX7_isWish 3 = .ok (.getfield 57, 3) := by decide +kernel
theorem dX7_isWish_6 : decode cX7_isWish 6 = .ok (.iconst 1, 1) := by decide +kernel
theorem dX7_isWish_7 : decode cX7_isWish 7 = .ok (.isub, 1) := by decide +kernel
theorem dX7_isWish_8 : decode cX7_isWish 8 = .ok (.invokestatic 53, 3) := by decide +kernel
theorem dX7_isWish_11 : decode cX7_isWish 11 = .ok (.ireturn, 1) := by decide +kernel
set_option maxRecDepth 20000 in
theorem ggX7_isLayer_X7_isIn : GoodIn wsX7_isLayer wsX7_isIn := goodIn_r _ [4] (by decide +kernel) (by decide +kernel)
set_option maxRecDepth 20000 in
theorem gX7_isLayer_X7_isIn : GoodIn wsX7_isLayer (va_wsS RX7 53 yX7_isIn wsX7_isIn) := goodIn_app (goodIn_of _ (by decide +kernel)) ggX7_isLayer_X7_isIn
theorem dX7_isLayer_0 : decode cX7_isLayer 0 = .ok (.iload_n 0, 1) := by decide +kernel
theorem dX7_isLayer_1 : decode cX7_isLayer 1 = .ok (.iconst 0, 1) := by decide +kernel
theorem dX7_isLayer_2 : decode cX7_isLayer 2 = .ok (.iconst 4, 1) := by decide +kernel
theorem dX7_isLayer_3 : decode cX7_isLayer 3 = .ok (.invokestatic 53, 3) := by decide +kernel
theorem dX7_isLayer_6 : decode cX7_isLayer 6 = .ok (.ireturn, 1) := by decide +kernel
set_option maxRecDepth 20000 in
theorem ggX7_addLand_X7_isIn : GoodIn wsX7_addLand wsX7_isIn := goodIn_r _ [8] (by decide +kernel) (by decide +kernel)
set_option maxRecDepth 20000 in
theorem gX7_addLand_X7_isIn : GoodIn wsX7_addLand (va_wsS RX7 53 yX7_isIn wsX7_isIn) := goodIn_app (goodIn_of _ (by decide +kernel)) ggX7_addLand_X7_isIn
set_option maxRecDepth 20000 in
theorem ggX7_addLand_X7_no : GoodIn wsX7_addLand wsX7_no := goodIn_r _ [12, 1, 13, 14, 15, 16, 17, 18, 19, 20, 21, 22, 23, 24, 25, 26, 27] (by decide +kernel) (by decide +kernel)
set_option maxRecDepth 20000 in
theorem gX7_addLand_X7_no : GoodIn wsX7_addLand (wsV RX7 60 RX7 yX7_no wsX7_no) := goodIn_app (goodIn_of _ (by decide +kernel)) ggX7_addLand_X7_no
theorem dX7_addLand_0 : decode cX7_addLand 0 = .ok (.aload_n 0, 1) := by decide +kernel
theorem dX7_addLand_1 : decode cX7_addLand 1 = .ok (.iconst 0, 1) := by decide +kernel
theorem dX7_addLand_2 : decode cX7_addLand 2 = .ok (.putfield 46, 3) := by decide +kernel
theorem dX7_addLand_5 : decode cX7_addLand 5 = .ok (.iload_n 1, 1) := by decide +kernel
theorem dX7_addLand_6 : decode cX7_addLand 6 = .ok (.iconst 1, 1) := by decide +kernel
theorem dX7_addLand_7 : decode cX7_addLand 7 = .ok (.bipush 50, 2) := by decide +kernel
theorem dX7_addLand_9 : decode cX7_addLand 9 = .ok (.invokestatic 53, 3) := by decide +kernel
theorem dX7_addLand_12 : decode cX7_addLand 12 = .ok (.ifCond .eq 13, 3) := by decide +kernel
theorem dX7_addLand_15 : decode cX7_addLand 15 = .ok (.iload_n 2, 1) := by decide +kernel
theorem dX7_addLand_16 : decode cX7_addLand 16 = .ok (.iconst 1, 1) := by decide +kernel
theorem dX7_addLand_17 : decode cX7_addLand 17 = .ok (.bipush 9, 2) := by decide +kernel
theorem dX7_addLand_19 : decode cX7_addLand 19 = .ok (.invokestatic 53, 3) := by decide +kernel
theorem dX7_addLand_22 : decode cX7_addLand 22 = .ok (.ifCond .ne 9, 3) := by decide +kernel
theorem dX7_addLand_25 : decode cX7_addLand 25 = .ok (.aload_n 0, 1) := by decide +kernel
theorem dX7_addLand_26 : decode cX7_addLand 26 = .ok (.iconst 1, 1) := by decide +kernel
theorem dX7_addLand_27 : decode cX7_addLand 27 = .ok (.invokevirtual 60, 3) := by decide +kernel
theorem dX7_addLand_30 : decode cX7_addLand 30 = .ok (.ireturn, 1) := by decide +kernel
theorem dX7_addLand_31 : decode cX7_addLand 31 = .ok (.aload_n 0, 1) := by decide +kernel
theorem dX7_addLand_32 : decode cX7_addLand 32 = .ok (.getfield 50, 3) := by decide +kernel
theorem dX7_addLand_35 : decode cX7_addLand 35 = .ok (.bipush 6, 2) := by decide +kernel
theorem dX7_addLand_37 : decode cX7_addLand 37 = .ok (.if_icmp .ne 9, 3) := by decide +kernel
theorem dX7_addLand_40 : decode cX7_addLand 40 = .ok (.aload_n 0, 1) := by decide +kernel
theorem dX7_addLand_41 : decode cX7_addLand 41 = .ok (.iconst 2, 1) := by decide +kernel
theorem dX7_addLand_42 : decode cX7_addLand 42 = .ok (.invokevirtual 60, 3) := by decide +kernel
theorem dX7_addLand_45 : decode cX7_addLand 45 = .ok (.ireturn, 1) := by decide +kernel
theorem dX7_addLand_46 : decode cX7_addLand 46 = .ok (.aload_n 0, 1) := by decide +kernel
theorem dX7_addLand_47 : decode cX7_addLand 47 = .ok (.getfield 9, 3) := by decide +kernel
theorem dX7_addLand_50 : decode cX7_addLand 50 = .ok (.aload_n 0, 1) := by decide +kernel
theorem dX7_addLand_51 : decode cX7_addLand 51 = .ok (.getfield 50, 3) := by decide +kernel
theorem dX7_addLand_54 : decode cX7_addLand 54 = .ok (.iload_n 1, 1) := by decide +kernel
theorem dX7_addLand_55 : decode cX7_addLand 55 = .ok (.iastore, 1) := by decide +kernel
theorem dX7_addLand_56 : decode cX7_addLand 56 = .ok (.aload_n 0, 1) := by decide +kernel
theorem dX7_addLand_57 : decode cX7_addLand 57 = .ok (.getfield 13, 3) := by decide +kernel
theorem dX7_addLand_60 : decode cX7_addLand 60 = .ok (.aload_n 0, 1) := by decide +kernel
theorem dX7_addLand_61 : decode cX7_addLand 61 = .ok (.getfield 50, 3) := by decide +kernel
theorem dX7_addLand_64 : decode cX7_addLand 64 = .ok (.iload_n 2, 1) := by decide +kernel
theorem dX7_addLand_65 : decode cX7_addLand 65 = .ok (.iastore, 1) := by decide +kernel
theorem dX7_addLand_66 : decode cX7_addLand 66 = .ok (.aload_n 0, 1) := by decide +kernel
theorem dX7_addLand_67 : decode cX7_addLand 67 = .ok (.dup, 1) := by decide +kernel
theorem dX7_addLand_68 : decode cX7_addLand 68 = .ok (.getfield 50, 3) := by decide +kernel
theorem dX7_addLand_71 : decode cX7_addLand 71 = .ok (.iconst 1, 1) := by decide +kernel
theorem dX7_addLand_72 : decode cX7_addLand 72 = .ok (.iadd, 1) := by decide +kernel
theorem dX7_addLand_73 : decode cX7_addLand 73 = .ok (.putfield 50, 3) := by decide +kernel
theorem dX7_addLand_76 : decode cX7_addLand 76 = .ok (.aload_n 0, 1) := by decide +kernel
theorem dX7_addLand_77 : decode cX7_addLand 77 = .ok (.getfield 50, 3) := by decide +kernel
theorem dX7_addLand_80 : decode cX7_addLand 80 = .ok (.iconst 1, 1) := by decide +kernel
theorem dX7_addLand_81 : decode cX7_addLand 81 = .ok (.isub, 1) := by decide +kernel
theorem dX7_addLand_82 : decode cX7_addLand 82 = .ok (.ireturn, 1) := by decide +kernel
set_option maxRecDepth 20000 in
theorem ggX7_setTide_X7_isIn : GoodIn wsX7_setTide wsX7_isIn := goodIn_r _ [6] (by decide +kernel) (by decide +kernel)
set_option maxRecDepth 20000 in
theorem gX7_setTide_X7_isIn : GoodIn wsX7_setTide (va_wsS RX7 53 yX7_isIn wsX7_isIn) := goodIn_app (goodIn_of _ (by decide +kernel)) ggX7_setTide_X7_isIn
set_option maxRecDepth 20000 in
theorem ggX7_setTide_X7_no : GoodIn wsX7_setTide wsX7_no := goodIn_r _ [10, 1, 11, 12, 13, 14, 15, 16, 17, 18, 19, 20, 21, 22, 23, 24, 25] (by decide +kernel) (by decide +kernel)
set_option maxRecDepth 20000 in
theorem gX7_setTide_X7_no : GoodIn wsX7_setTide (wsV RX7 60 RX7 yX7_no wsX7_no) := goodIn_app (goodIn_of _ (by decide +kernel)) ggX7_setTide_X7_no
theorem dX7_setTide_0 : decode cX7_setTide 0 = .ok (.aload_n 0, 1) := by decide +kernel
theorem dX7_setTide_1 : decode cX7_setTide 1 = .ok (.iconst 0, 1) := by decide +kernel
theorem dX7_setTide_2 : decode cX7_setTide 2 = .ok (.putfield 46, 3) := by decide +kernel
theorem dX7_setTide_5 : decode cX7_setTide 5 = .ok (.iload_n 1, 1) := by decide +kernel
theorem dX7_setTide_6 : decode cX7_setTide 6 = .ok (.iconst 0, 1) := by decide +kernel
theorem dX7_setTide_7 : decode cX7_setTide 7 = .ok (.bipush 6, 2) := by decide +kernel
theorem dX7_setTide_9 : decode cX7_setTide 9 = .ok (.invokestatic 53, 3) := by decide +kernel
theorem dX7_setTide_12 : decode cX7_setTide 12 = .ok (.ifCond .ne 9, 3) := by decide +kernel
theorem dX7_setTide_15 : decode cX7_setTide 15 = .ok (.aload_n 0, 1) := by decide +kernel
theorem dX7_setTide_16 : decode cX7_setTide 16 = .ok (.iconst 1, 1) := by decide +kernel
theorem dX7_setTide_17 : decode cX7_setTide 17 = .ok (.invokevirtual 60, 3) := by decide +kernel
theorem dX7_setTide_20 : decode cX7_setTide 20 = .ok (.ireturn, 1) := by decide +kernel
theorem dX7_setTide_21 : decode cX7_setTide 21 = .ok (.iload_n 2, 1) := by decide +kernel
theorem dX7_setTide_22 : decode cX7_setTide 22 = .ok (.iconst 0, 1) := by decide +kernel
theorem dX7_setTide_23 : decode cX7_setTide 23 = .ok (.bipush 9, 2) := by decide +kernel
theorem dX7_setTide_25 : decode cX7_setTide 25 = .ok (.invokestatic 53, 3) := by decide +kernel
theorem dX7_setTide_28 : decode cX7_setTide 28 = .ok (.ifCond .ne 9, 3) := by decide +kernel
theorem dX7_setTide_31 : decode cX7_setTide 31 = .ok (.aload_n 0, 1) := by decide +kernel
theorem dX7_setTide_32 : decode cX7_setTide 32 = .ok (.iconst 2, 1) := by decide +kernel
theorem dX7_setTide_33 : decode cX7_setTide 33 = .ok (.invokevirtual 60, 3) := by decide +kernel
theorem dX7_setTide_36 : decode cX7_setTide 36 = .ok (.ireturn, 1) := by decide +kernel
theorem dX7_setTide_37 : decode cX7_setTide 37 = .ok (.aload_n 0, 1) := by decide +kernel
theorem dX7_setTide_38 : decode cX7_setTide 38 = .ok (.getfield 16, 3) := by decide +kernel
theorem dX7_setTide_41 : decode cX7_setTide 41 = .ok (.iload_n 1, 1) := by decide +kernel
theorem dX7_setTide_42 : decode cX7_setTide 42 = .ok (.iaload, 1) := by decide +kernel
theorem dX7_setTide_43 : decode cX7_setTide 43 = .ok (.istore_n 3, 1) := by decide +kernel
theorem dX7_setTide_44 : decode cX7_setTide 44 = .ok (.aload_n 0, 1) := by decide +kernel
theorem dX7_setTide_45 : decode cX7_setTide 45 = .ok (.getfield 16, 3) := by decide +kernel
theorem dX7_setTide_48 : decode cX7_setTide 48 = .ok (.iload_n 1, 1) := by decide +kernel
theorem dX7_setTide_49 : decode cX7_setTide 49 = .ok (.iload_n 2, 1) := by decide +kernel
theorem dX7_setTide_50 : decode cX7_setTide 50 = .ok (.iastore, 1) := by decide +kernel
theorem dX7_setTide_51 : decode cX7_setTide 51 = .ok (.iload_n 3, 1) := by decide +kernel
theorem dX7_setTide_52 : decode cX7_setTide 52 = .ok (.ireturn, 1) := by decide +kernel
set_option maxRecDepth 20000 in
theorem ggX7_wish_X7_isLand : GoodIn wsX7_wish wsX7_isLand := goodIn_r _ [11, 12, 13, 14, 10, 15, 33, 34, 35, 36, 37, 38, 39, 40, 41, 42, 43, 44, 45, 46, 47] (by decide +kernel) (by decide +kernel)
set_option maxRecDepth 20000 in
theorem gX7_wish_X7_isLand : GoodIn wsX7_wish (wsV RX7 64 RX7 yX7_isLand wsX7_isLand) := goodIn_app (goodIn_of _ (by decide +kernel)) ggX7_wish_X7_isLand
set_option maxRecDepth 20000 in
theorem ggX7_wish_X7_no : GoodIn wsX7_wish wsX7_no := goodIn_r _ [19, 1, 33, 34, 35, 36, 37, 38, 39, 40, 41, 42, 43, 44, 45, 46, 47] (by decide +kernel) (by decide +kernel)
set_option maxRecDepth 20000 in
theorem gX7_wish_X7_no : GoodIn wsX7_wish (wsV RX7 60 RX7 yX7_no wsX7_no) := goodIn_app (goodIn_of _ (by decide +kernel)) ggX7_wish_X7_no
set_option maxRecDepth 20000 in
theorem ggX7_wish_X7_isIn : GoodIn wsX7_wish wsX7_isIn := goodIn_r _ [15] (by decide +kernel) (by decide +kernel)
set_option maxRecDepth 20000 in
theorem gX7_wish_X7_isIn : GoodIn wsX7_wish (va_wsS RX7 53 yX7_isIn wsX7_isIn) := goodIn_app (goodIn_of _ (by decide +kernel)) ggX7_wish_X7_isIn
set_option maxRecDepth 20000 in
theorem ggX7_wish_X6_drop : GoodIn wsX7_wish wsX6_drop := goodIn_ca (goodIn_r _ [24, 25, 26, 27, 28, 29, 30, 31, 32, 48, 49, 50, 51, 52, 53, 54, 55, 33, 34, 35, 36, 37, 38, 39, 40, 41, 42, 43, 44, 45, 46, 47] (by decide +kernel) (by decide +kernel)) (goodIn_sub (fun _ h => List.mem_cons_of_mem _ (List.mem_append_right _ h)) (by decide +kernel))
set_option maxRecDepth 20000 in
theorem gX7_wish_X6_drop : GoodIn wsX7_wish (wsV RX7 74 RX6 yX6_drop wsX6_drop) := goodIn_app (goodIn_of _ (by decide +kernel)) ggX7_wish_X6_drop
theorem dX7_wish_0 : decode cX7_wish 0 = .ok (.aload_n 0, 1) := by decide +kernel
theorem dX7_wish_1 : decode cX7_wish 1 = .ok (.iconst 0, 1) := by decide +kernel
theorem dX7_wish_2 : decode cX7_wish 2 = .ok (.putfield 46, 3) := by decide +kernel
theorem dX7_wish_5 : decode cX7_wish 5 = .ok (.aload_n 0, 1) := by decide +kernel
theorem dX7_wish_6 : decode cX7_wish 6 = .ok (.iload_n 1, 1) := by decide +kernel
theorem dX7_wish_7 : decode cX7_wish 7 = .ok (.invokevirtual 64, 3) := by decide +kernel
theorem dX7_wish_10 : decode cX7_wish 10 = .ok (.ifCond .ne 9, 3) := by decide +kernel
theorem dX7_wish_13 : decode cX7_wish 13 = .ok (.aload_n 0, 1) := by decide +kernel
theorem dX7_wish_14 : decode cX7_wish 14 = .ok (.iconst 1, 1) := by decide +kernel
theorem dX7_wish_15 : decode cX7_wish 15 = .ok (.invokevirtual 60, 3) := by decide +kernel
theorem dX7_wish_18 : decode cX7_wish 18 = .ok (.ireturn, 1) := by decide +kernel
theorem dX7_wish_19 : decode cX7_wish 19 = .ok (.iload_n 2, 1) := by decide +kernel
theorem dX7_wish_20 : decode cX7_wish 20 = .ok (.iconst 0, 1) := by decide +kernel
theorem dX7_wish_21 : decode cX7_wish 21 = .ok (.iconst 3, 1) := by decide +kernel
theorem dX7_wish_22 : decode cX7_wish 22 = .ok (.invokestatic 53, 3) := by decide +kernel
theorem dX7_wish_25 : decode cX7_wish 25 = .ok (.ifCond .ne 9, 3) := by decide +kernel
theorem dX7_wish_28 : decode cX7_wish 28 = .ok (.aload_n 0, 1) := by decide +kernel
theorem dX7_wish_29 : decode cX7_wish 29 = .ok (.iconst 2, 1) := by decide +kernel
theorem dX7_wish_30 : decode cX7_wish 30 = .ok (.invokevirtual 60, 3) := by decide +kernel
theorem dX7_wish_33 : decode cX7_wish 33 = .ok (.ireturn, 1) := by decide +kernel
theorem dX7_wish_34 : decode cX7_wish 34 = .ok (.aload_n 0, 1) := by decide +kernel
theorem dX7_wish_35 : decode cX7_wish 35 = .ok (.getfield 57, 3) := by decide +kernel
theorem dX7_wish_38 : decode cX7_wish 38 = .ok (.bipush 24, 2) := by decide +kernel
theorem dX7_wish_40 : decode cX7_wish 40 = .ok (.if_icmp .ne 9, 3) := by decide +kernel
theorem dX7_wish_43 : decode cX7_wish 43 = .ok (.aload_n 0, 1) := by decide +kernel
theorem dX7_wish_44 : decode cX7_wish 44 = .ok (.iconst 3, 1) := by decide +kernel
theorem dX7_wish_45 : decode cX7_wish 45 = .ok (.invokevirtual 60, 3) := by decide +kernel
theorem dX7_wish_48 : decode cX7_wish 48 = .ok (.ireturn, 1) := by decide +kernel
theorem dX7_wish_49 : decode cX7_wish 49 = .ok (.aload_n 0, 1) := by decide +kernel
theorem dX7_wish_50 : decode cX7_wish 50 = .ok (.getfield 25, 3) := by decide +kernel
theorem dX7_wish_53 : decode cX7_wish 53 = .ok (.aload_n 0, 1) := by decide +kernel
theorem dX7_wish_54 : decode cX7_wish 54 = .ok (.getfield 57, 3) := by decide +kernel
theorem dX7_wish_57 : decode cX7_wish 57 = .ok (.iload_n 2, 1) := by decide +kernel
theorem dX7_wish_58 : decode cX7_wish 58 = .ok (.iastore, 1) := by decide +kernel
theorem dX7_wish_59 : decode cX7_wish 59 = .ok (.aload_n 0, 1) := by decide +kernel
theorem dX7_wish_60 : decode cX7_wish 60 = .ok (.getfield 28, 3) := by decide +kernel
theorem dX7_wish_63 : decode cX7_wish 63 = .ok (.aload_n 0, 1) := by decide +kernel
theorem dX7_wish_64 : decode cX7_wish 64 = .ok (.getfield 57, 3) := by decide +kernel
theorem dX7_wish_67 : decode cX7_wish 67 = .ok (.iload_n 1, 1) := by decide +kernel
theorem dX7_wish_68 : decode cX7_wish 68 = .ok (.iastore, 1) := by decide +kernel
theorem dX7_wish_69 : decode cX7_wish 69 = .ok (.aload_n 0, 1) := by decide +kernel
theorem dX7_wish_70 : decode cX7_wish 70 = .ok (.getfield 31, 3) := by decide +kernel
theorem dX7_wish_73 : decode cX7_wish 73 = .ok (.aload_n 0, 1) := by decide +kernel
theorem dX7_wish_74 : decode cX7_wish 74 = .ok (.getfield 57, 3) := by decide +kernel
theorem dX7_wish_77 : decode cX7_wish 77 = .ok (.aload_n 0, 1) := by decide +kernel
theorem dX7_wish_78 : decode cX7_wish 78 = .ok (.getfield 39, 3) := by decide +kernel
theorem dX7_wish_81 : decode cX7_wish 81 = .ok (.getfield 68, 3) := by decide +kernel
theorem dX7_wish_84 : decode cX7_wish 84 = .ok (.iastore, 1) := by decide +kernel
theorem dX7_wish_85 : decode cX7_wish 85 = .ok (.aload_n 0, 1) := by decide +kernel
theorem dX7_wish_86 : decode cX7_wish 86 = .ok (.getfield 39, 3) := by decide +kernel
theorem dX7_wish_89 : decode cX7_wish 89 = .ok (.getfield 71, 3) := by decide +kernel
theorem dX7_wish_92 : decode cX7_wish 92 = .ok (.aload_n 0, 1) := by decide +kernel
theorem dX7_wish_93 : decode cX7_wish 93 = .ok (.getfield 57, 3) := by decide +kernel
theorem dX7_wish_96 : decode cX7_wish 96 = .ok (.iconst (-1), 1) := by decide +kernel
theorem dX7_wish_97 : decode cX7_wish 97 = .ok (.iastore, 1) := by decide +kernel
theorem dX7_wish_98 : decode cX7_wish 98 = .ok (.aload_n 0, 1) := by decide +kernel
theorem dX7_wish_99 : decode cX7_wish 99 = .ok (.getfield 39, 3) := by decide +kernel
theorem dX7_wish_102 : decode cX7_wish 102 = .ok (.iload_n 1, 1) := by decide +kernel
theorem dX7_wish_103 : decode cX7_wish 103 = .ok (.invokevirtual 74, 3) := by decide +kernel
theorem dX7_wish_106 : decode cX7_wish 106 = .ok (.aload_n 0, 1) := by decide +kernel
theorem dX7_wish_107 : decode cX7_wish 107 = .ok (.dup, 1) := by decide +kernel
theorem dX7_wish_108 : decode cX7_wish 108 = .ok (.getfield 57, 3) := by decide +kernel
theorem dX7_wish_111 : decode cX7_wish 111 = .ok (.iconst 1, 1) := by decide +kernel
theorem dX7_wish_112 : decode cX7_wish 112 = .ok (.iadd, 1) := by decide +kernel
theorem dX7_wish_113 : decode cX7_wish 113 = .ok (.putfield 57, 3) := by decide +kernel
theorem dX7_wish_116 : decode cX7_wish 116 = .ok (.aload_n 0, 1) := by decide +kernel
theorem dX7_wish_117 : decode cX7_wish 117 = .ok (.getfield 57, 3) := by decide +kernel
theorem dX7_wish_120 : decode cX7_wish 120 = .ok (.iconst 1, 1) := by decide +kernel
theorem dX7_wish_121 : decode cX7_wish 121 = .ok (.isub, 1) := by decide +kernel
theorem dX7_wish_122 : decode cX7_wish 122 = .ok (.ireturn, 1) := by decide +kernel
set_option maxRecDepth 20000 in
theorem ggX7_withdraw_X7_isWish : GoodIn wsX7_withdraw wsX7_isWish := goodIn_r _ [13, 14, 15, 16, 12, 17, 22, 23, 24, 25, 26, 27, 28, 29, 30, 31, 32, 33, 34, 35, 36] (by decide +kernel) (by decide +kernel)
set_option maxRecDepth 20000 in
theorem gX7_withdraw_X7_isWish : GoodIn wsX7_withdraw (wsV RX7 78 RX7 yX7_isWish wsX7_isWish) := goodIn_app (goodIn_of _ (by decide +kernel)) ggX7_withdraw_X7_isWish
set_option maxRecDepth 20000 in
theorem ggX7_withdraw_X7_no : GoodIn wsX7_withdraw wsX7_no := goodIn_r _ [21, 1, 22, 23, 24, 25, 26, 27, 28, 29, 30, 31, 32, 33, 34, 35, 36] (by decide +kernel) (by decide +kernel)
set_option maxRecDepth 20000 in
theorem gX7_withdraw_X7_no : GoodIn wsX7_withdraw (wsV RX7 60 RX7 yX7_no wsX7_no) := goodIn_app (goodIn_of _ (by decide +kernel)) ggX7_withdraw_X7_no
theorem dX7_withdraw_0 : decode cX7_withdraw 0 = .ok (.aload_n 0, 1) := by decide +kernel
theorem dX7_withdraw_1 : decode cX7_withdraw 1 = .ok (.iconst 0, 1) := by decide +kernel
theorem dX7_withdraw_2 : decode cX7_withdraw 2 = .ok (.putfield 46, 3) := by decide +kernel
theorem dX7_withdraw_5 : decode cX7_withdraw 5 = .ok (.aload_n 0, 1) := by decide +kernel
theorem dX7_withdraw_6 : decode cX7_withdraw 6 = .ok (.iload_n 1, 1) := by decide +kernel
theorem dX7_withdraw_7 : decode cX7_withdraw 7 = .ok (.invokevirtual 78, 3) := by decide +kernel
theorem dX7_withdraw_10 : decode cX7_withdraw 10 = .ok (.ifCond .ne 9, 3) := by decide +kernel
theorem dX7_withdraw_13 : decode cX7_withdraw 13 = .ok (.aload_n 0, 1) := by decide +kernel
theorem dX7_withdraw_14 : decode cX7_withdraw 14 = .ok (.iconst 1, 1) := by decide +kernel
theorem dX7_withdraw_15 : decode cX7_withdraw 15 = .ok (.invokevirtual 60, 3) := by decide +kernel
theorem dX7_withdraw_18 : decode cX7_withdraw 18 = .ok (.ireturn, 1) := by decide +kernel
theorem dX7_withdraw_19 : decode cX7_withdraw 19 = .ok (.aload_n 0, 1) := by decide +kernel
theorem dX7_withdraw_20 : decode cX7_withdraw 20 = .ok (.getfield 39, 3) := by decide +kernel
theorem dX7_withdraw_23 : decode cX7_withdraw 23 = .ok (.getfield 81, 3) := by decide +kernel
theorem dX7_withdraw_26 : decode cX7_withdraw 26 = .ok (.iload_n 1, 1) := by decide +kernel
theorem dX7_withdraw_27 : decode cX7_withdraw 27 = .ok (.iaload, 1) := by decide +kernel
theorem dX7_withdraw_28 : decode cX7_withdraw 28 = .ok (.ifCond .eq 9, 3) := by decide +kernel
theorem dX7_withdraw_31 : decode cX7_withdraw 31 = .ok (.aload_n 0, 1) := by decide +kernel
theorem dX7_withdraw_32 : decode cX7_withdraw 32 = .ok (.iconst 2, 1) := by decide +kernel
theorem dX7_withdraw_33 : decode cX7_withdraw 33 = .ok (.invokevirtual 60, 3) := by decide +kernel
theorem dX7_withdraw_36 : decode cX7_withdraw 36 = .ok (.ireturn, 1) := by decide +kernel
theorem dX7_withdraw_37 : decode cX7_withdraw 37 = .ok (.aload_n 0, 1) := by decide +kernel
theorem dX7_withdraw_38 : decode cX7_withdraw 38 = .ok (.getfield 39, 3) := by decide +kernel
theorem dX7_withdraw_41 : decode cX7_withdraw 41 = .ok (.getfield 81, 3) := by decide +kernel
theorem dX7_withdraw_44 : decode cX7_withdraw 44 = .ok (.iload_n 1, 1) := by decide +kernel
theorem dX7_withdraw_45 : decode cX7_withdraw 45 = .ok (.iconst 2, 1) := by decide +kernel
theorem dX7_withdraw_46 : decode cX7_withdraw 46 = .ok (.iastore, 1) := by decide +kernel
theorem dX7_withdraw_47 : decode cX7_withdraw 47 = .ok (.aload_n 0, 1) := by decide +kernel
theorem dX7_withdraw_48 : decode cX7_withdraw 48 = .ok (.getfield 39, 3) := by decide +kernel
theorem dX7_withdraw_51 : decode cX7_withdraw 51 = .ok (.iconst 0, 1) := by decide +kernel
theorem dX7_withdraw_52 : decode cX7_withdraw 52 = .ok (.aload_n 0, 1) := by decide +kernel
theorem dX7_withdraw_53 : decode cX7_withdraw 53 = .ok (.getfield 39, 3) := by decide +kernel
theorem dX7_withdraw_56 : decode cX7_withdraw 56 = .ok (.getfield 84, 3) := by decide +kernel
theorem dX7_withdraw_59 : decode cX7_withdraw 59 = .ok (.iconst 5, 1) := by decide +kernel
theorem dX7_withdraw_60 : decode cX7_withdraw 60 = .ok (.isub, 1) := by decide +kernel
theorem dX7_withdraw_61 : decode cX7_withdraw 61 = .ok (.invokestatic 87, 3) := by decide +kernel
theorem dX7_withdraw_64 : decode cX7_withdraw 64 = .ok (.putfield 84, 3) := by decide +kernel
theorem dX7_withdraw_67 : decode cX7_withdraw 67 = .ok (.iconst 0, 1) := by decide +kernel
theorem dX7_withdraw_68 : decode cX7_withdraw 68 = .ok (.istore_n 2, 1) := by decide +kernel
theorem dX7_withdraw_69 : decode cX7_withdraw 69 = .ok (.iload_n 2, 1) := by decide +kernel
theorem dX7_withdraw_70 : decode cX7_withdraw 70 = .ok (.iconst 5, 1) := by decide +kernel
theorem dX7_withdraw_71 : decode cX7_withdraw 71 = .ok (.if_icmp .ge 66, 3) := by decide +kernel
theorem dX7_withdraw_74 : decode cX7_withdraw 74 = .ok (.bipush 6, 2) := by decide +kernel
theorem dX7_withdraw_76 : decode cX7_withdraw 76 = .ok (.iload_n 2, 1) := by decide +kernel
theorem dX7_withdraw_77 : decode cX7_withdraw 77 = .ok (.imul, 1) := by decide +kernel
theorem dX7_withdraw_78 : decode cX7_withdraw 78 = .ok (.aload_n 0, 1) := by decide +kernel
theorem dX7_withdraw_79 : decode cX7_withdraw 79 = .ok (.getfield 28, 3) := by decide +kernel
theorem dX7_withdraw_82 : decode cX7_withdraw 82 = .ok (.iload_n 1, 1) := by decide +kernel
theorem dX7_withdraw_83 : decode cX7_withdraw 83 = .ok (.iaload, 1) := by decide +kernel
theorem dX7_withdraw_84 : decode cX7_withdraw 84 = .ok (.iadd, 1) := by decide +kernel
theorem dX7_withdraw_85 : decode cX7_withdraw 85 = .ok (.istore_n 3, 1) := by decide +kernel
theorem dX7_withdraw_86 : decode cX7_withdraw 86 = .ok (.aload_n 0, 1) := by decide +kernel
theorem dX7_withdraw_87 : decode cX7_withdraw 87 = .ok (.getfield 39, 3) := by decide +kernel
theorem dX7_withdraw_90 : decode cX7_withdraw 90 = .ok (.getfield 93, 3) := by decide +kernel
theorem dX7_withdraw_93 : decode cX7_withdraw 93 = .ok (.iload_n 3, 1) := by decide +kernel
theorem dX7_withdraw_94 : decode cX7_withdraw 94 = .ok (.iaload, 1) := by decide +kernel
theorem dX7_withdraw_95 : decode cX7_withdraw 95 = .ok (.ifCond .ne 6, 3) := by decide +kernel
theorem dX7_withdraw_98 : decode cX7_withdraw 98 = .ok (.goto 33, 3) := by decide +kernel
theorem dX7_withdraw_101 : decode cX7_withdraw 101 = .ok (.aload_n 0, 1) := by decide +kernel
theorem dX7_withdraw_102 : decode cX7_withdraw 102 = .ok (.getfield 39, 3) := by decide +kernel
theorem dX7_withdraw_105 : decode cX7_withdraw 105 = .ok (.getfield 93, 3) := by decide +kernel
theorem dX7_withdraw_108 : decode cX7_withdraw 108 = .ok (.iload_n 3, 1) := by decide +kernel
theorem dX7_withdraw_109 : decode cX7_withdraw 109 = .ok (.dup2, 1) := by decide +kernel
theorem dX7_withdraw_110 : decode cX7_withdraw 110 = .ok (.iaload, 1) := by decide +kernel
theorem dX7_withdraw_111 : decode cX7_withdraw 111 = .ok (.iconst 1, 1) := by decide +kernel
theorem dX7_withdraw_112 : decode cX7_withdraw 112 = .ok (.isub, 1) := by decide +kernel
theorem dX7_withdraw_113 : decode cX7_withdraw 113 = .ok (.iastore, 1) := by decide +kernel
theorem dX7_withdraw_114 : decode cX7_withdraw 114 = .ok (.aload_n 0, 1) := by decide +kernel
theorem dX7_withdraw_115 : decode cX7_withdraw 115 = .ok (.getfield 22, 3) := by decide +kernel
theorem dX7_withdraw_118 : decode cX7_withdraw 118 = .ok (.aload_n 0, 1) := by decide +kernel
theorem dX7_withdraw_119 : decode cX7_withdraw 119 = .ok (.getfield 28, 3) := by decide +kernel
theorem dX7_withdraw_122 : decode cX7_withdraw 122 = .ok (.iload_n 1, 1) := by decide +kernel
theorem dX7_withdraw_123 : decode cX7_withdraw 123 = .ok (.iaload, 1) := by decide +kernel
theorem dX7_withdraw_124 : decode cX7_withdraw 124 = .ok (.dup2, 1) := by decide +kernel
theorem dX7_withdraw_125 : decode cX7_withdraw 125 = .ok (.iaload, 1) := by decide +kernel
theorem dX7_withdraw_126 : decode cX7_withdraw 126 = .ok (.iconst 1, 1) := by decide +kernel
theorem dX7_withdraw_127 : decode cX7_withdraw 127 = .ok (.iadd, 1) := by decide +kernel
theorem dX7_withdraw_128 : decode cX7_withdraw 128 = .ok (.iastore, 1) := by decide +kernel
theorem dX7_withdraw_129 : decode cX7_withdraw 129 = .ok (.iload_n 2, 1) := by decide +kernel
theorem dX7_withdraw_130 : decode cX7_withdraw 130 = .ok (.ireturn, 1) := by decide +kernel
theorem dX7_withdraw_131 : decode cX7_withdraw 131 = .ok (.iinc 2 1, 3) := by decide +kernel
theorem dX7_withdraw_134 : decode cX7_withdraw 134 = .ok (.goto (-65), 3) := by decide +kernel
theorem dX7_withdraw_137 : decode cX7_withdraw 137 = .ok (.iconst (-1), 1) := by decide +kernel
theorem dX7_withdraw_138 : decode cX7_withdraw 138 = .ok (.ireturn, 1) := by decide +kernel
set_option maxRecDepth 20000 in
theorem ggX7_fish_X7_isLayer : GoodIn wsX7_fish wsX7_isLayer := goodIn_r _ [9, 10, 11, 8, 12] (by decide +kernel) (by decide +kernel)
set_option maxRecDepth 20000 in
theorem gX7_fish_X7_isLayer : GoodIn wsX7_fish (va_wsS RX7 96 yX7_isLayer wsX7_isLayer) := goodIn_app (goodIn_of _ (by decide +kernel)) ggX7_fish_X7_isLayer
set_option maxRecDepth 20000 in
theorem ggX7_fish_X7_no : GoodIn wsX7_fish wsX7_no := goodIn_r _ [16, 1, 17, 18, 19, 20, 21, 22, 23, 24, 25, 26, 27, 28, 29, 30, 31] (by decide +kernel) (by decide +kernel)
set_option maxRecDepth 20000 in
theorem gX7_fish_X7_no : GoodIn wsX7_fish (wsV RX7 60 RX7 yX7_no wsX7_no) := goodIn_app (goodIn_of _ (by decide +kernel)) ggX7_fish_X7_no
set_option maxRecDepth 20000 in
theorem ggX7_fish_X7_isIn : GoodIn wsX7_fish wsX7_isIn := goodIn_r _ [12] (by decide +kernel) (by decide +kernel)
set_option maxRecDepth 20000 in
theorem gX7_fish_X7_isIn : GoodIn wsX7_fish (va_wsS RX7 53 yX7_isIn wsX7_isIn) := goodIn_app (goodIn_of _ (by decide +kernel)) ggX7_fish_X7_isIn
theorem dX7_fish_0 : decode cX7_fish 0 = .ok (.aload_n 0, 1) := by decide +kernel
theorem dX7_fish_1 : decode cX7_fish 1 = .ok (.iconst 0, 1) := by decide +kernel
theorem dX7_fish_2 : decode cX7_fish 2 = .ok (.putfield 46, 3) := by decide +kernel
theorem dX7_fish_5 : decode cX7_fish 5 = .ok (.iload_n 1, 1) := by decide +kernel
theorem dX7_fish_6 : decode cX7_fish 6 = .ok (.invokestatic 96, 3) := by decide +kernel
theorem dX7_fish_9 : decode cX7_fish 9 = .ok (.ifCond .ne 9, 3) := by decide +kernel
theorem dX7_fish_12 : decode cX7_fish 12 = .ok (.aload_n 0, 1) := by decide +kernel
theorem dX7_fish_13 : decode cX7_fish 13 = .ok (.iconst 1, 1) := by decide +kernel
theorem dX7_fish_14 : decode cX7_fish 14 = .ok (.invokevirtual 60, 3) := by decide +kernel
theorem dX7_fish_17 : decode cX7_fish 17 = .ok (.ireturn, 1) := by decide +kernel
theorem dX7_fish_18 : decode cX7_fish 18 = .ok (.iload_n 2, 1) := by decide +kernel
theorem dX7_fish_19 : decode cX7_fish 19 = .ok (.iconst 1, 1) := by decide +kernel
theorem dX7_fish_20 : decode cX7_fish 20 = .ok (.bipush 20, 2) := by decide +kernel
theorem dX7_fish_22 : decode cX7_fish 22 = .ok (.invokestatic 53, 3) := by decide +kernel
theorem dX7_fish_25 : decode cX7_fish 25 = .ok (.ifCond .ne 9, 3) := by decide +kernel
theorem dX7_fish_28 : decode cX7_fish 28 = .ok (.aload_n 0, 1) := by decide +kernel
theorem dX7_fish_29 : decode cX7_fish 29 = .ok (.iconst 2, 1) := by decide +kernel
theorem dX7_fish_30 : decode cX7_fish 30 = .ok (.invokevirtual 60, 3) := by decide +kernel
theorem dX7_fish_33 : decode cX7_fish 33 = .ok (.ireturn, 1) := by decide +kernel
theorem dX7_fish_34 : decode cX7_fish 34 = .ok (.iconst 0, 1) := by decide +kernel
theorem dX7_fish_35 : decode cX7_fish 35 = .ok (.istore_n 3, 1) := by decide +kernel
theorem dX7_fish_36 : decode cX7_fish 36 = .ok (.iconst 0, 1) := by decide +kernel
theorem dX7_fish_37 : decode cX7_fish 37 = .ok (.istore 4, 2) := by decide +kernel
theorem dX7_fish_39 : decode cX7_fish 39 = .ok (.iload 4, 2) := by decide +kernel
theorem dX7_fish_41 : decode cX7_fish 41 = .ok (.iload_n 2, 1) := by decide +kernel
theorem dX7_fish_42 : decode cX7_fish 42 = .ok (.if_icmp .ge 113, 3) := by decide +kernel
theorem dX7_fish_45 : decode cX7_fish 45 = .ok (.iconst (-1), 1) := by decide +kernel
theorem dX7_fish_46 : decode cX7_fish 46 = .ok (.istore 5, 2) := by decide +kernel
theorem dX7_fish_48 : decode cX7_fish 48 = .ok (.iconst 0, 1) := by decide +kernel
theorem dX7_fish_49 : decode cX7_fish 49 = .ok (.istore 6, 2) := by decide +kernel
theorem dX7_fish_51 : decode cX7_fish 51 = .ok (.iload 6, 2) := by decide +kernel
theorem dX7_fish_53 : decode cX7_fish 53 = .ok (.aload_n 0, 1) := by decide +kernel
theorem dX7_fish_54 : decode cX7_fish 54 = .ok (.getfield 50, 3) := by decide +kernel
theorem dX7_fish_57 : decode cX7_fish 57 = .ok (.if_icmp .ge 54, 3) := by decide +kernel
theorem dX7_fish_60 : decode cX7_fish 60 = .ok (.aload_n 0, 1) := by decide +kernel
theorem dX7_fish_61 : decode cX7_fish 61 = .ok (.getfield 39, 3) := by decide +kernel
theorem dX7_fish_64 : decode cX7_fish 64 = .ok (.getfield 93, 3) := by decide +kernel
theorem dX7_fish_67 : decode cX7_fish 67 = .ok (.bipush 6, 2) := by decide +kernel
theorem dX7_fish_69 : decode cX7_fish 69 = .ok (.iload_n 1, 1) := by decide +kernel
theorem dX7_fish_70 : decode cX7_fish 70 = .ok (.imul, 1) := by decide +kernel
theorem dX7_fish_71 : decode cX7_fish 71 = .ok (.iload 6, 2) := by decide +kernel
theorem dX7_fish_73 : decode cX7_fish 73 = .ok (.iadd, 1) := by decide +kernel
theorem dX7_fish_74 : decode cX7_fish 74 = .ok (.iaload, 1) := by decide +kernel
theorem dX7_fish_75 : decode cX7_fish 75 = .ok (.ifCond .le 30, 3) := by decide +kernel
theorem dX7_fish_78 : decode cX7_fish 78 = .ok (.iload 5, 2) := by decide +kernel
theorem dX7_fish_80 : decode cX7_fish 80 = .ok (.iconst (-1), 1) := by decide +kernel
theorem dX7_fish_81 : decode cX7_fish 81 = .ok (.if_icmp .eq 20, 3) := by decide +kernel
theorem dX7_fish_84 : decode cX7_fish 84 = .ok (.aload_n 0, 1) := by decide +kernel
theorem dX7_fish_85 : decode cX7_fish 85 = .ok (.getfield 9, 3) := by decide +kernel
theorem dX7_fish_88 : decode cX7_fish 88 = .ok (.iload 6, 2) := by decide +kernel
theorem dX7_fish_90 : decode cX7_fish 90 = .ok (.iaload, 1) := by decide +kernel
theorem dX7_fish_91 : decode cX7_fish 91 = .ok (.aload_n 0, 1) := by decide +kernel
theorem dX7_fish_92 : decode cX7_fish 92 = .ok (.getfield 9, 3) := by decide +kernel
theorem dX7_fish_95 : decode cX7_fish 95 = .ok (.iload 5, 2) := by decide +kernel
theorem dX7_fish_97 : decode cX7_fish 97 = .ok (.iaload, 1) := by decide +kernel
theorem dX7_fish_98 : decode cX7_fish 98 = .ok (.if_icmp .le 7, 3) := by decide +kernel
theorem dX7_fish_101 : decode cX7_fish 101 = .ok (.iload 6, 2) := by decide +kernel
theorem dX7_fish_103 : decode cX7_fish 103 = .ok (.istore 5, 2) := by decide +kernel
theorem dX7_fish_105 : decode cX7_fish 105 = .ok (.iinc 6 1, 3) := by decide +kernel
theorem dX7_fish_108 : decode cX7_fish 108 = .ok (.goto (-57), 3) := by decide +kernel
theorem dX7_fish_111 : decode cX7_fish 111 = .ok (.iload 5, 2) := by decide +kernel
theorem dX7_fish_113 : decode cX7_fish 113 = .ok (.iconst (-1), 1) := by decide +kernel
theorem dX7_fish_114 : decode cX7_fish 114 = .ok (.if_icmp .ne 6, 3) := by decide +kernel
theorem dX7_fish_117 : decode cX7_fish 117 = .ok (.goto 38, 3) := by decide +kernel
theorem dX7_fish_120 : decode cX7_fish 120 = .ok (.aload_n 0, 1) := by decide +kernel
theorem dX7_fish_121 : decode cX7_fish 121 = .ok (.getfield 39, 3) := by decide +kernel
theorem dX7_fish_124 : decode cX7_fish 124 = .ok (.getfield 93, 3) := by decide +kernel
theorem dX7_fish_127 : decode cX7_fish 127 = .ok (.bipush 6, 2) := by decide +kernel
theorem dX7_fish_129 : decode cX7_fish 129 = .ok (.iload_n 1, 1) := by decide +kernel
theorem dX7_fish_130 : decode cX7_fish 130 = .ok (.imul, 1) := by decide +kernel
theorem dX7_fish_131 : decode cX7_fish 131 = .ok (.iload 5, 2) := by decide +kernel
theorem dX7_fish_133 : decode cX7_fish 133 = .ok (.iadd, 1) := by decide +kernel
theorem dX7_fish_134 : decode cX7_fish 134 = .ok (.dup2, 1) := by decide +kernel
theorem dX7_fish_135 : decode cX7_fish 135 = .ok (.iaload, 1) := by decide +kernel
theorem dX7_fish_136 : decode cX7_fish 136 = .ok (.iconst 1, 1) := by decide +kernel
theorem dX7_fish_137 : decode cX7_fish 137 = .ok (.isub, 1) := by decide +kernel
theorem dX7_fish_138 : decode cX7_fish 138 = .ok (.iastore, 1) := by decide +kernel
theorem dX7_fish_139 : decode cX7_fish 139 = .ok (.iload_n 3, 1) := by decide +kernel
theorem dX7_fish_140 : decode cX7_fish 140 = .ok (.aload_n 0, 1) := by decide +kernel
theorem dX7_fish_141 : decode cX7_fish 141 = .ok (.getfield 9, 3) := by decide +kernel
theorem dX7_fish_144 : decode cX7_fish 144 = .ok (.iload 5, 2) := by decide +kernel
theorem dX7_fish_146 : decode cX7_fish 146 = .ok (.iaload, 1) := by decide +kernel
theorem dX7_fish_147 : decode cX7_fish 147 = .ok (.iadd, 1) := by decide +kernel
theorem dX7_fish_148 : decode cX7_fish 148 = .ok (.istore_n 3, 1) := by decide +kernel
theorem dX7_fish_149 : decode cX7_fish 149 = .ok (.iinc 4 1, 3) := by decide +kernel
theorem dX7_fish_152 : decode cX7_fish 152 = .ok (.goto (-113), 3) := by decide +kernel
theorem dX7_fish_155 : decode cX7_fish 155 = .ok (.aload_n 0, 1) := by decide +kernel
theorem dX7_fish_156 : decode cX7_fish 156 = .ok (.dup, 1) := by decide +kernel
theorem dX7_fish_157 : decode cX7_fish 157 = .ok (.getfield 99, 3) := by decide +kernel
theorem dX7_fish_160 : decode cX7_fish 160 = .ok (.iload_n 3, 1) := by decide +kernel
theorem dX7_fish_161 : decode cX7_fish 161 = .ok (.iadd, 1) := by decide +kernel
theorem dX7_fish_162 : decode cX7_fish 162 = .ok (.putfield 99, 3) := by decide +kernel
theorem dX7_fish_165 : decode cX7_fish 165 = .ok (.iload_n 3, 1) := by decide +kernel
theorem dX7_fish_166 : decode cX7_fish 166 = .ok (.ireturn, 1) := by decide +kernel
set_option maxRecDepth 20000 in
theorem ggX7_audit_X7_isLayer : GoodIn wsX7_audit wsX7_isLayer := goodIn_r _ [8, 9, 10, 7, 11] (by decide +kernel) (by decide +kernel)
set_option maxRecDepth 20000 in
theorem gX7_audit_X7_isLayer : GoodIn wsX7_audit (va_wsS RX7 96 yX7_isLayer wsX7_isLayer) := goodIn_app (goodIn_of _ (by decide +kernel)) ggX7_audit_X7_isLayer
set_option maxRecDepth 20000 in
theorem ggX7_audit_X7_no : GoodIn wsX7_audit wsX7_no := goodIn_r _ [15, 1, 27, 28, 29, 30, 31, 32, 33, 34, 35, 36, 37, 38, 39, 40, 41] (by decide +kernel) (by decide +kernel)
set_option maxRecDepth 20000 in
theorem gX7_audit_X7_no : GoodIn wsX7_audit (wsV RX7 60 RX7 yX7_no wsX7_no) := goodIn_app (goodIn_of _ (by decide +kernel)) ggX7_audit_X7_no
set_option maxRecDepth 20000 in
theorem ggX7_audit_X6_coins : GoodIn wsX7_audit wsX6_coins := goodIn_ca (goodIn_r _ [20, 21, 42, 43, 44, 45, 46, 47, 48, 49] (by decide +kernel) (by decide +kernel)) (goodIn_sub (fun _ h => List.mem_cons_of_mem _ (List.mem_append_right _ h)) (by decide +kernel))
set_option maxRecDepth 20000 in
theorem gX7_audit_X6_coins : GoodIn wsX7_audit (wsV RX7 102 RX6 yX6_coins wsX6_coins) := goodIn_app (goodIn_of _ (by decide +kernel)) ggX7_audit_X6_coins
set_option maxRecDepth 20000 in
theorem ggX7_audit_X6_worth : GoodIn wsX7_audit wsX6_worth := goodIn_ca (goodIn_r _ [25, 26, 21, 42, 43, 44, 45, 46, 47, 48, 49, 27, 28, 29, 30, 31, 32, 33, 34, 35, 36, 37, 38, 39, 40, 41] (by decide +kernel) (by decide +kernel)) (goodIn_sub (fun _ h => List.mem_cons_of_mem _ (List.mem_append_right _ h)) (by decide +kernel))
set_option maxRecDepth 20000 in
theorem gX7_audit_X6_worth : GoodIn wsX7_audit (wsV RX7 108 RX6 yX6_worth wsX6_worth) := goodIn_app (goodIn_of _ (by decide +kernel)) ggX7_audit_X6_worth
theorem dX7_audit_0 : decode cX7_audit 0 = .ok (.aload_n 0, 1) := by decide +kernel
theorem dX7_audit_1 : decode cX7_audit 1 = .ok (.iconst 0, 1) := by decide +kernel
theorem dX7_audit_2 : decode cX7_audit 2 = .ok (.putfield 46, 3) := by decide +kernel
theorem dX7_audit_5 : decode cX7_audit 5 = .ok (.iload_n 1, 1) := by decide +kernel
theorem dX7_audit_6 : decode cX7_audit 6 = .ok (.invokestatic 96, 3) := by decide +kernel
theorem dX7_audit_9 : decode cX7_audit 9 = .ok (.ifCond .ne 9, 3) := by decide +kernel
theorem dX7_audit_12 : decode cX7_audit 12 = .ok (.aload_n 0, 1) := by decide +kernel
theorem dX7_audit_13 : decode cX7_audit 13 = .ok (.iconst 1, 1) := by decide +kernel
theorem dX7_audit_14 : decode cX7_audit 14 = .ok (.invokevirtual 60, 3) := by decide +kernel
theorem dX7_audit_17 : decode cX7_audit 17 = .ok (.ireturn, 1) := by decide +kernel
theorem dX7_audit_18 : decode cX7_audit 18 = .ok (.aload_n 0, 1) := by decide +kernel
theorem dX7_audit_19 : decode cX7_audit 19 = .ok (.getfield 39, 3) := by decide +kernel
theorem dX7_audit_22 : decode cX7_audit 22 = .ok (.iload_n 1, 1) := by decide +kernel
theorem dX7_audit_23 : decode cX7_audit 23 = .ok (.invokevirtual 102, 3) := by decide +kernel
theorem dX7_audit_26 : decode cX7_audit 26 = .ok (.istore_n 2, 1) := by decide +kernel
theorem dX7_audit_27 : decode cX7_audit 27 = .ok (.aload_n 0, 1) := by decide +kernel
theorem dX7_audit_28 : decode cX7_audit 28 = .ok (.dup, 1) := by decide +kernel
theorem dX7_audit_29 : decode cX7_audit 29 = .ok (.getfield 105, 3) := by decide +kernel
theorem dX7_audit_32 : decode cX7_audit 32 = .ok (.aload_n 0, 1) := by decide +kernel
theorem dX7_audit_33 : decode cX7_audit 33 = .ok (.getfield 39, 3) := by decide +kernel
theorem dX7_audit_36 : decode cX7_audit 36 = .ok (.iload_n 1, 1) := by decide +kernel
theorem dX7_audit_37 : decode cX7_audit 37 = .ok (.invokevirtual 108, 3) := by decide +kernel
theorem dX7_audit_40 : decode cX7_audit 40 = .ok (.iadd, 1) := by decide +kernel
theorem dX7_audit_41 : decode cX7_audit 41 = .ok (.putfield 105, 3) := by decide +kernel
theorem dX7_audit_44 : decode cX7_audit 44 = .ok (.iconst 0, 1) := by decide +kernel
theorem dX7_audit_45 : decode cX7_audit 45 = .ok (.istore_n 3, 1) := by decide +kernel
theorem dX7_audit_46 : decode cX7_audit 46 = .ok (.iload_n 3, 1) := by decide +kernel
theorem dX7_audit_47 : decode cX7_audit 47 = .ok (.bipush 6, 2) := by decide +kernel
theorem dX7_audit_49 : decode cX7_audit 49 = .ok (.if_icmp .ge 47, 3) := by decide +kernel
theorem dX7_audit_52 : decode cX7_audit 52 = .ok (.aload_n 0, 1) := by decide +kernel
theorem dX7_audit_53 : decode cX7_audit 53 = .ok (.getfield 19, 3) := by decide +kernel
theorem dX7_audit_56 : decode cX7_audit 56 = .ok (.iload_n 3, 1) := by decide +kernel
theorem dX7_audit_57 : decode cX7_audit 57 = .ok (.dup2, 1) := by decide +kernel
theorem dX7_audit_58 : decode cX7_audit 58 = .ok (.iaload, 1) := by decide +kernel
theorem dX7_audit_59 : decode cX7_audit 59 = .ok (.aload_n 0, 1) := by decide +kernel
theorem dX7_audit_60 : decode cX7_audit 60 = .ok (.getfield 39, 3) := by decide +kernel
theorem dX7_audit_63 : decode cX7_audit 63 = .ok (.getfield 93, 3) := by decide +kernel
theorem dX7_audit_66 : decode cX7_audit 66 = .ok (.bipush 6, 2) := by decide +kernel
theorem dX7_audit_68 : decode cX7_audit 68 = .ok (.iload_n 1, 1) := by decide +kernel
theorem dX7_audit_69 : decode cX7_audit 69 = .ok (.imul, 1) := by decide +kernel
theorem dX7_audit_70 : decode cX7_audit 70 = .ok (.iload_n 3, 1) := by decide +kernel
theorem dX7_audit_71 : decode cX7_audit 71 = .ok (.iadd, 1) := by decide +kernel
theorem dX7_audit_72 : decode cX7_audit 72 = .ok (.iaload, 1) := by decide +kernel
theorem dX7_audit_73 : decode cX7_audit 73 = .ok (.iadd, 1) := by decide +kernel
theorem dX7_audit_74 : decode cX7_audit 74 = .ok (.iastore, 1) := by decide +kernel
theorem dX7_audit_75 : decode cX7_audit 75 = .ok (.aload_n 0, 1) := by decide +kernel
theorem dX7_audit_76 : decode cX7_audit 76 = .ok (.getfield 39, 3) := by decide +kernel
theorem dX7_audit_79 : decode cX7_audit 79 = .ok (.getfield 93, 3) := by decide +kernel
theorem dX7_audit_82 : decode cX7_audit 82 = .ok (.bipush 6, 2) := by decide +kernel
theorem dX7_audit_84 : decode cX7_audit 84 = .ok (.iload_n 1, 1) := by decide +kernel
theorem dX7_audit_85 : decode cX7_audit 85 = .ok (.imul, 1) := by decide +kernel
theorem dX7_audit_86 : decode cX7_audit 86 = .ok (.iload_n 3, 1) := by decide +kernel
theorem dX7_audit_87 : decode cX7_audit 87 = .ok (.iadd, 1) := by decide +kernel
theorem dX7_audit_88 : decode cX7_audit 88 = .ok (.iconst 0, 1) := by decide +kernel
theorem dX7_audit_89 : decode cX7_audit 89 = .ok (.iastore, 1) := by decide +kernel
theorem dX7_audit_90 : decode cX7_audit 90 = .ok (.iinc 3 1, 3) := by decide +kernel
theorem dX7_audit_93 : decode cX7_audit 93 = .ok (.goto (-47), 3) := by decide +kernel
theorem dX7_audit_96 : decode cX7_audit 96 = .ok (.iload_n 2, 1) := by decide +kernel
theorem dX7_audit_97 : decode cX7_audit 97 = .ok (.ireturn, 1) := by decide +kernel
set_option maxRecDepth 20000 in
theorem ggX7_missed_X6_all : GoodIn wsX7_missed wsX6_all := goodIn_ca (goodIn_r _ [8, 9, 25, 26, 27, 28, 29, 30, 31, 32] (by decide +kernel) (by decide +kernel)) (goodIn_sub (fun _ h => List.mem_cons_of_mem _ (List.mem_append_right _ h)) (by decide +kernel))
set_option maxRecDepth 20000 in
theorem gX7_missed_X6_all : GoodIn wsX7_missed (wsV RX7 114 RX6 yX6_all wsX6_all) := goodIn_app (goodIn_of _ (by decide +kernel)) ggX7_missed_X6_all
theorem dX7_missed_0 : decode cX7_missed 0 = .ok (.aload_n 0, 1) := by decide +kernel
theorem dX7_missed_1 : decode cX7_missed 1 = .ok (.getfield 39, 3) := by decide +kernel
theorem dX7_missed_4 : decode cX7_missed 4 = .ok (.getfield 111, 3) := by decide +kernel
theorem dX7_missed_7 : decode cX7_missed 7 = .ok (.iload_n 1, 1) := by decide +kernel
theorem dX7_missed_8 : decode cX7_missed 8 = .ok (.iaload, 1) := by decide +kernel
theorem dX7_missed_9 : decode cX7_missed 9 = .ok (.aload_n 0, 1) := by decide +kernel
theorem dX7_missed_10 : decode cX7_missed 10 = .ok (.getfield 39, 3) := by decide +kernel
theorem dX7_missed_13 : decode cX7_missed 13 = .ok (.iload_n 1, 1) := by decide +kernel
theorem dX7_missed_14 : decode cX7_missed 14 = .ok (.invokevirtual 114, 3) := by decide +kernel
theorem dX7_missed_17 : decode cX7_missed 17 = .ok (.isub, 1) := by decide +kernel
theorem dX7_missed_18 : decode cX7_missed 18 = .ok (.aload_n 0, 1) := by decide +kernel
theorem dX7_missed_19 : decode cX7_missed 19 = .ok (.getfield 19, 3) := by decide +kernel
theorem dX7_missed_22 : decode cX7_missed 22 = .ok (.iload_n 1, 1) := by decide +kernel
theorem dX7_missed_23 : decode cX7_missed 23 = .ok (.iaload, 1) := by decide +kernel
theorem dX7_missed_24 : decode cX7_missed 24 = .ok (.isub, 1) := by decide +kernel
theorem dX7_missed_25 : decode cX7_missed 25 = .ok (.aload_n 0, 1) := by decide +kernel
theorem dX7_missed_26 : decode cX7_missed 26 = .ok (.getfield 22, 3) := by decide +kernel
theorem dX7_missed_29 : decode cX7_missed 29 = .ok (.iload_n 1, 1) := by decide +kernel
theorem dX7_missed_30 : decode cX7_missed 30 = .ok (.iaload, 1) := by decide +kernel
theorem dX7_missed_31 : decode cX7_missed 31 = .ok (.isub, 1) := by decide +kernel
theorem dX7_missed_32 : decode cX7_missed 32 = .ok (.ireturn, 1) := by decide +kernel
set_option maxRecDepth 20000 in
theorem ggX7_missing_X7_isLand : GoodIn wsX7_missing wsX7_isLand := goodIn_r _ [6, 7, 8, 9, 5, 10, 28, 29, 30, 31, 32, 33, 34, 35, 36, 37, 38, 39, 40, 41, 42] (by decide +kernel) (by decide +kernel)
set_option maxRecDepth 20000 in
theorem gX7_missing_X7_isLand : GoodIn wsX7_missing (wsV RX7 64 RX7 yX7_isLand wsX7_isLand) := goodIn_app (goodIn_of _ (by decide +kernel)) ggX7_missing_X7_isLand
set_option maxRecDepth 20000 in
theorem ggX7_missing_X7_missed : GoodIn wsX7_missing wsX7_missed := goodIn_ca (goodIn_r _ [14, 15, 16, 17, 18, 19, 20, 21, 22, 23, 28, 29, 30, 31, 32, 33, 34, 35, 36, 37, 38, 39, 40, 41, 42, 43, 44, 45, 46, 47, 48, 49, 50] (by decide +kernel) (by decide +kernel)) (goodIn_sub (fun _ h => List.mem_cons_of_mem _ (List.mem_append_right _ h)) (by decide +kernel))
set_option maxRecDepth 20000 in
theorem gX7_missing_X7_missed : GoodIn wsX7_missing (wsV RX7 117 RX7 yX7_missed wsX7_missed) := goodIn_app (goodIn_of _ (by decide +kernel)) ggX7_missing_X7_missed
set_option maxRecDepth 20000 in
theorem ggX7_missing_X7_no : GoodIn wsX7_missing wsX7_no := goodIn_r _ [27, 1, 28, 29, 30, 31, 32, 33, 34, 35, 36, 37, 38, 39, 40, 41, 42] (by decide +kernel) (by decide +kernel)
set_option maxRecDepth 20000 in
theorem gX7_missing_X7_no : GoodIn wsX7_missing (wsV RX7 60 RX7 yX7_no wsX7_no) := goodIn_app (goodIn_of _ (by decide +kernel)) ggX7_missing_X7_no
theorem dX7_missing_0 : decode cX7_missing 0 = .ok (.aload_n 0, 1) := by decide +kernel
theorem dX7_missing_1 : decode cX7_missing 1 = .ok (.iconst 0, 1) := by decide +kernel
theorem dX7_missing_2 : decode cX7_missing 2 = .ok (.putfield 46, 3) := by decide +kernel
theorem dX7_missing_5 : decode cX7_missing 5 = .ok (.aload_n 0, 1) := by decide +kernel
theorem dX7_missing_6 : decode cX7_missing 6 = .ok (.iload_n 1, 1) := by decide +kernel
theorem dX7_missing_7 : decode cX7_missing 7 = .ok (.invokevirtual 64, 3) := by decide +kernel
theorem dX7_missing_10 : decode cX7_missing 10 = .ok (.ifCond .eq 11, 3) := by decide +kernel
theorem dX7_missing_13 : decode cX7_missing 13 = .ok (.aload_n 0, 1) := by decide +kernel
theorem dX7_missing_14 : decode cX7_missing 14 = .ok (.iload_n 1, 1) := by decide +kernel
theorem dX7_missing_15 : decode cX7_missing 15 = .ok (.invokevirtual 117, 3) := by decide +kernel
theorem dX7_missing_18 : decode cX7_missing 18 = .ok (.goto 8, 3) := by decide +kernel
theorem dX7_missing_21 : decode cX7_missing 21 = .ok (.aload_n 0, 1) := by decide +kernel
theorem dX7_missing_22 : decode cX7_missing 22 = .ok (.iconst 1, 1) := by decide +kernel
theorem dX7_missing_23 : decode cX7_missing 23 = .ok (.invokevirtual 60, 3) := by decide +kernel
theorem dX7_missing_26 : decode cX7_missing 26 = .ok (.ireturn, 1) := by decide +kernel
set_option maxRecDepth 20000 in
theorem ggX7_landTold_X6_all : GoodIn wsX7_landTold wsX6_all := goodIn_ca (goodIn_r _ [10, 11, 27, 28, 29, 30, 31, 32, 33, 34] (by decide +kernel) (by decide +kernel)) (goodIn_sub (fun _ h => List.mem_cons_of_mem _ (List.mem_append_right _ h)) (by decide +kernel))
set_option maxRecDepth 20000 in
theorem gX7_landTold_X6_all : GoodIn wsX7_landTold (wsV RX7 114 RX6 yX6_all wsX6_all) := goodIn_app (goodIn_of _ (by decide +kernel)) ggX7_landTold_X6_all
theorem dX7_landTold_0 : decode cX7_landTold 0 = .ok (.iconst 5, 1) := by decide +kernel
theorem dX7_landTold_1 : decode cX7_landTold 1 = .ok (.newarray .int, 2) := by decide +kernel
theorem dX7_landTold_3 : decode cX7_landTold 3 = .ok (.dup, 1) := by decide +kernel
theorem dX7_landTold_4 : decode cX7_landTold 4 = .ok (.iconst 0, 1) := by decide +kernel
theorem dX7_landTold_5 : decode cX7_landTold 5 = .ok (.aload_n 0, 1) := by decide +kernel
theorem dX7_landTold_6 : decode cX7_landTold 6 = .ok (.getfield 9, 3) := by decide +kernel
theorem dX7_landTold_9 : decode cX7_landTold 9 = .ok (.iload_n 1, 1) := by decide +kernel
theorem dX7_landTold_10 : decode cX7_landTold 10 = .ok (.iaload, 1) := by decide +kernel
theorem dX7_landTold_11 : decode cX7_landTold 11 = .ok (.iastore, 1) := by decide +kernel
theorem dX7_landTold_12 : decode cX7_landTold 12 = .ok (.dup, 1) := by decide +kernel
theorem dX7_landTold_13 : decode cX7_landTold 13 = .ok (.iconst 1, 1) := by decide +kernel
theorem dX7_landTold_14 : decode cX7_landTold 14 = .ok (.aload_n 0, 1) := by decide +kernel
theorem dX7_landTold_15 : decode cX7_landTold 15 = .ok (.getfield 13, 3) := by decide +kernel
theorem dX7_landTold_18 : decode cX7_landTold 18 = .ok (.iload_n 1, 1) := by decide +kernel
theorem dX7_landTold_19 : decode cX7_landTold 19 = .ok (.iaload, 1) := by decide +kernel
theorem dX7_landTold_20 : decode cX7_landTold 20 = .ok (.iastore, 1) := by decide +kernel
theorem dX7_landTold_21 : decode cX7_landTold 21 = .ok (.dup, 1) := by decide +kernel
theorem dX7_landTold_22 : decode cX7_landTold 22 = .ok (.iconst 2, 1) := by decide +kernel
theorem dX7_landTold_23 : decode cX7_landTold 23 = .ok (.aload_n 0, 1) := by decide +kernel
theorem dX7_landTold_24 : decode cX7_landTold 24 = .ok (.getfield 39, 3) := by decide +kernel
theorem dX7_landTold_27 : decode cX7_landTold 27 = .ok (.getfield 111, 3) := by decide +kernel
theorem dX7_landTold_30 : decode cX7_landTold 30 = .ok (.iload_n 1, 1) := by decide +kernel
theorem dX7_landTold_31 : decode cX7_landTold 31 = .ok (.iaload, 1) := by decide +kernel
theorem dX7_landTold_32 : decode cX7_landTold 32 = .ok (.iastore, 1) := by decide +kernel
theorem dX7_landTold_33 : decode cX7_landTold 33 = .ok (.dup, 1) := by decide +kernel
theorem dX7_landTold_34 : decode cX7_landTold 34 = .ok (.iconst 3, 1) := by decide +kernel
theorem dX7_landTold_35 : decode cX7_landTold 35 = .ok (.aload_n 0, 1) := by decide +kernel
theorem dX7_landTold_36 : decode cX7_landTold 36 = .ok (.getfield 39, 3) := by decide +kernel
theorem dX7_landTold_39 : decode cX7_landTold 39 = .ok (.iload_n 1, 1) := by decide +kernel
theorem dX7_landTold_40 : decode cX7_landTold 40 = .ok (.invokevirtual 114, 3) := by decide +kernel
theorem dX7_landTold_43 : decode cX7_landTold 43 = .ok (.iastore, 1) := by decide +kernel
theorem dX7_landTold_44 : decode cX7_landTold 44 = .ok (.dup, 1) := by decide +kernel
theorem dX7_landTold_45 : decode cX7_landTold 45 = .ok (.iconst 4, 1) := by decide +kernel
theorem dX7_landTold_46 : decode cX7_landTold 46 = .ok (.aload_n 0, 1) := by decide +kernel
theorem dX7_landTold_47 : decode cX7_landTold 47 = .ok (.getfield 19, 3) := by decide +kernel
theorem dX7_landTold_50 : decode cX7_landTold 50 = .ok (.iload_n 1, 1) := by decide +kernel
theorem dX7_landTold_51 : decode cX7_landTold 51 = .ok (.iaload, 1) := by decide +kernel
theorem dX7_landTold_52 : decode cX7_landTold 52 = .ok (.iastore, 1) := by decide +kernel
theorem dX7_landTold_53 : decode cX7_landTold 53 = .ok (.astore_n 3, 1) := by decide +kernel
theorem dX7_landTold_54 : decode cX7_landTold 54 = .ok (.aload_n 3, 1) := by decide +kernel
theorem dX7_landTold_55 : decode cX7_landTold 55 = .ok (.iload_n 2, 1) := by decide +kernel
theorem dX7_landTold_56 : decode cX7_landTold 56 = .ok (.iaload, 1) := by decide +kernel
theorem dX7_landTold_57 : decode cX7_landTold 57 = .ok (.ireturn, 1) := by decide +kernel
set_option maxRecDepth 20000 in
theorem ggX7_land_X7_isLand : GoodIn wsX7_land wsX7_isLand := goodIn_r _ [6, 7, 8, 9, 5, 10, 30, 31, 32, 33, 34, 35, 36, 37, 38, 39, 40, 41, 42, 43, 44] (by decide +kernel) (by decide +kernel)
set_option maxRecDepth 20000 in
theorem gX7_land_X7_isLand : GoodIn wsX7_land (wsV RX7 64 RX7 yX7_isLand wsX7_isLand) := goodIn_app (goodIn_of _ (by decide +kernel)) ggX7_land_X7_isLand
set_option maxRecDepth 20000 in
theorem ggX7_land_X7_isIn : GoodIn wsX7_land wsX7_isIn := goodIn_r _ [10] (by decide +kernel) (by decide +kernel)
set_option maxRecDepth 20000 in
theorem gX7_land_X7_isIn : GoodIn wsX7_land (va_wsS RX7 53 yX7_isIn wsX7_isIn) := goodIn_app (goodIn_of _ (by decide +kernel)) ggX7_land_X7_isIn
set_option maxRecDepth 20000 in
theorem ggX7_land_X7_landTold : GoodIn wsX7_land wsX7_landTold := goodIn_ca (goodIn_r _ [14, 15, 16, 17, 18, 19, 20, 21, 22, 23, 24, 25, 30, 31, 32, 33, 34, 35, 36, 37, 38, 39, 40, 41, 42, 43, 44, 45, 46, 47, 48, 49, 50, 51, 52] (by decide +kernel) (by decide +kernel)) (goodIn_sub (fun _ h => List.mem_cons_of_mem _ (List.mem_append_right _ h)) (by decide +kernel))
set_option maxRecDepth 20000 in
theorem gX7_land_X7_landTold : GoodIn wsX7_land (wsV RX7 120 RX7 yX7_landTold wsX7_landTold) := goodIn_app (goodIn_of _ (by decide +kernel)) ggX7_land_X7_landTold
set_option maxRecDepth 20000 in
theorem ggX7_land_X7_no : GoodIn wsX7_land wsX7_no := goodIn_r _ [29, 1, 30, 31, 32, 33, 34, 35, 36, 37, 38, 39, 40, 41, 42, 43, 44] (by decide +kernel) (by decide +kernel)
set_option maxRecDepth 20000 in
theorem gX7_land_X7_no : GoodIn wsX7_land (wsV RX7 60 RX7 yX7_no wsX7_no) := goodIn_app (goodIn_of _ (by decide +kernel)) ggX7_land_X7_no
theorem dX7_land_0 : decode cX7_land 0 = .ok (.aload_n 0, 1) := by decide +kernel
theorem dX7_land_1 : decode cX7_land 1 = .ok (.iconst 0, 1) := by decide +kernel
theorem dX7_land_2 : decode cX7_land 2 = .ok (.putfield 46, 3) := by decide +kernel
theorem dX7_land_5 : decode cX7_land 5 = .ok (.aload_n 0, 1) := by decide +kernel
theorem dX7_land_6 : decode cX7_land 6 = .ok (.iload_n 1, 1) := by decide +kernel
theorem dX7_land_7 : decode cX7_land 7 = .ok (.invokevirtual 64, 3) := by decide +kernel
theorem dX7_land_10 : decode cX7_land 10 = .ok (.ifCond .eq 21, 3) := by decide +kernel
theorem dX7_land_13 : decode cX7_land 13 = .ok (.iload_n 2, 1) := by decide +kernel
theorem dX7_land_14 : decode cX7_land 14 = .ok (.iconst 0, 1) := by decide +kernel
theorem dX7_land_15 : decode cX7_land 15 = .ok (.iconst 4, 1) := by decide +kernel
theorem dX7_land_16 : decode cX7_land 16 = .ok (.invokestatic 53, 3) := by decide +kernel
theorem dX7_land_19 : decode cX7_land 19 = .ok (.ifCond .eq 12, 3) := by decide +kernel
theorem dX7_land_22 : decode cX7_land 22 = .ok (.aload_n 0, 1) := by decide +kernel
theorem dX7_land_23 : decode cX7_land 23 = .ok (.iload_n 1, 1) := by decide +kernel
theorem dX7_land_24 : decode cX7_land 24 = .ok (.iload_n 2, 1) := by decide +kernel
theorem dX7_land_25 : decode cX7_land 25 = .ok (.invokevirtual 120, 3) := by decide +kernel
theorem dX7_land_28 : decode cX7_land 28 = .ok (.goto 8, 3) := by decide +kernel
theorem dX7_land_31 : decode cX7_land 31 = .ok (.aload_n 0, 1) := by decide +kernel
theorem dX7_land_32 : decode cX7_land 32 = .ok (.iconst 1, 1) := by decide +kernel
theorem dX7_land_33 : decode cX7_land 33 = .ok (.invokevirtual 60, 3) := by decide +kernel
theorem dX7_land_36 : decode cX7_land 36 = .ok (.ireturn, 1) := by decide +kernel
set_option maxRecDepth 20000 in
theorem ggX7_coins_X7_isLayer : GoodIn wsX7_coins wsX7_isLayer := goodIn_r _ [6, 7, 8, 5, 9] (by decide +kernel) (by decide +kernel)
set_option maxRecDepth 20000 in
theorem gX7_coins_X7_isLayer : GoodIn wsX7_coins (va_wsS RX7 96 yX7_isLayer wsX7_isLayer) := goodIn_app (goodIn_of _ (by decide +kernel)) ggX7_coins_X7_isLayer
set_option maxRecDepth 20000 in
theorem ggX7_coins_X7_isLand : GoodIn wsX7_coins wsX7_isLand := goodIn_r _ [13, 14, 7, 8, 5, 9, 19, 20, 21, 22, 23, 24, 25, 26, 27, 28, 29, 30, 31, 32, 33] (by decide +kernel) (by decide +kernel)
set_option maxRecDepth 20000 in
theorem gX7_coins_X7_isLand : GoodIn wsX7_coins (wsV RX7 64 RX7 yX7_isLand wsX7_isLand) := goodIn_app (goodIn_of _ (by decide +kernel)) ggX7_coins_X7_isLand
set_option maxRecDepth 20000 in
theorem ggX7_coins_X7_no : GoodIn wsX7_coins wsX7_no := goodIn_r _ [18, 1, 19, 20, 21, 22, 23, 24, 25, 26, 27, 28, 29, 30, 31, 32, 33] (by decide +kernel) (by decide +kernel)
set_option maxRecDepth 20000 in
theorem gX7_coins_X7_no : GoodIn wsX7_coins (wsV RX7 60 RX7 yX7_no wsX7_no) := goodIn_app (goodIn_of _ (by decide +kernel)) ggX7_coins_X7_no
theorem dX7_coins_0 : decode cX7_coins 0 = .ok (.aload_n 0, 1) := by decide +kernel
theorem dX7_coins_1 : decode cX7_coins 1 = .ok (.iconst 0, 1) := by decide +kernel
theorem dX7_coins_2 : decode cX7_coins 2 = .ok (.putfield 46, 3) := by decide +kernel
theorem dX7_coins_5 : decode cX7_coins 5 = .ok (.iload_n 1, 1) := by decide +kernel
theorem dX7_coins_6 : decode cX7_coins 6 = .ok (.invokestatic 96, 3) := by decide +kernel
theorem dX7_coins_9 : decode cX7_coins 9 = .ok (.ifCond .eq 28, 3) := by decide +kernel
theorem dX7_coins_12 : decode cX7_coins 12 = .ok (.aload_n 0, 1) := by decide +kernel
theorem dX7_coins_13 : decode cX7_coins 13 = .ok (.iload_n 2, 1) := by decide +kernel
theorem dX7_coins_14 : decode cX7_coins 14 = .ok (.invokevirtual 64, 3) := by decide +kernel
theorem dX7_coins_17 : decode cX7_coins 17 = .ok (.ifCond .eq 20, 3) := by decide +kernel
theorem dX7_coins_20 : decode cX7_coins 20 = .ok (.aload_n 0, 1) := by decide +kernel
theorem dX7_coins_21 : decode cX7_coins 21 = .ok (.getfield 39, 3) := by decide +kernel
theorem dX7_coins_24 : decode cX7_coins 24 = .ok (.getfield 93, 3) := by decide +kernel
theorem dX7_coins_27 : decode cX7_coins 27 = .ok (.bipush 6, 2) := by decide +kernel
theorem dX7_coins_29 : decode cX7_coins 29 = .ok (.iload_n 1, 1) := by decide +kernel
theorem dX7_coins_30 : decode cX7_coins 30 = .ok (.imul, 1) := by decide +kernel
theorem dX7_coins_31 : decode cX7_coins 31 = .ok (.iload_n 2, 1) := by decide +kernel
theorem dX7_coins_32 : decode cX7_coins 32 = .ok (.iadd, 1) := by decide +kernel
theorem dX7_coins_33 : decode cX7_coins 33 = .ok (.iaload, 1) := by decide +kernel
theorem dX7_coins_34 : decode cX7_coins 34 = .ok (.goto 8, 3) := by decide +kernel
theorem dX7_coins_37 : decode cX7_coins 37 = .ok (.aload_n 0, 1) := by decide +kernel
theorem dX7_coins_38 : decode cX7_coins 38 = .ok (.iconst 1, 1) := by decide +kernel
theorem dX7_coins_39 : decode cX7_coins 39 = .ok (.invokevirtual 60, 3) := by decide +kernel
theorem dX7_coins_42 : decode cX7_coins 42 = .ok (.ireturn, 1) := by decide +kernel
theorem dX7_wishTold_0 : decode cX7_wishTold 0 = .ok (.iconst 5, 1) := by decide +kernel
theorem dX7_wishTold_1 : decode cX7_wishTold 1 = .ok (.newarray .int, 2) := by decide +kernel
theorem dX7_wishTold_3 : decode cX7_wishTold 3 = .ok (.dup, 1) := by decide +kernel
theorem dX7_wishTold_4 : decode cX7_wishTold 4 = .ok (.iconst 0, 1) := by decide +kernel
theorem dX7_wishTold_5 : decode cX7_wishTold 5 = .ok (.aload_n 0, 1) := by decide +kernel
theorem dX7_wishTold_6 : decode cX7_wishTold 6 = .ok (.getfield 25, 3) := by decide +kernel
theorem dX7_wishTold_9 : decode cX7_wishTold 9 = .ok (.iload_n 1, 1) := by decide +kernel
theorem dX7_wishTold_10 : decode cX7_wishTold 10 = .ok (.iaload, 1) := by decide +kernel
theorem dX7_wishTold_11 : decode cX7_wishTold 11 = .ok (.iastore, 1) := by decide +kernel
theorem dX7_wishTold_12 : decode cX7_wishTold 12 = .ok (.dup, 1) := by decide +kernel
theorem dX7_wishTold_13 : decode cX7_wishTold 13 = .ok (.iconst 1, 1) := by decide +kernel
theorem dX7_wishTold_14 : decode cX7_wishTold 14 = .ok (.aload_n 0, 1) := by decide +kernel
theorem dX7_wishTold_15 : decode cX7_wishTold 15 = .ok (.getfield 28, 3) := by decide +kernel
theorem dX7_wishTold_18 : decode cX7_wishTold 18 = .ok (.iload_n 1, 1) := by decide +kernel
theorem dX7_wishTold_19 : decode cX7_wishTold 19 = .ok (.iaload, 1) := by decide +kernel
theorem dX7_wishTold_20 : decode cX7_wishTold 20 = .ok (.iastore, 1) := by decide +kernel
theorem dX7_wishTold_21 : decode cX7_wishTold 21 = .ok (.dup, 1) := by decide +kernel
theorem dX7_wishTold_22 : decode cX7_wishTold 22 = .ok (.iconst 2, 1) := by decide +kernel
theorem dX7_wishTold_23 : decode cX7_wishTold 23 = .ok (.aload_n 0, 1) := by decide +kernel
theorem dX7_wishTold_24 : decode cX7_wishTold 24 = .ok (.getfield 31, 3) := by decide +kernel
theorem dX7_wishTold_27 : decode cX7_wishTold 27 = .ok (.iload_n 1, 1) := by decide +kernel
theorem dX7_wishTold_28 : decode cX7_wishTold 28 = .ok (.iaload, 1) := by decide +kernel
theorem dX7_wishTold_29 : decode cX7_wishTold 29 = .ok (.iastore, 1) := by decide +kernel
theorem dX7_wishTold_30 : decode cX7_wishTold 30 = .ok (.dup, 1) := by decide +kernel
theorem dX7_wishTold_31 : decode cX7_wishTold 31 = .ok (.iconst 3, 1) := by decide +kernel
theorem dX7_wishTold_32 : decode cX7_wishTold 32 = .ok (.aload_n 0, 1) := by decide +kernel
theorem dX7_wishTold_33 : decode cX7_wishTold 33 = .ok (.getfield 39, 3) := by decide +kernel
theorem dX7_wishTold_36 : decode cX7_wishTold 36 = .ok (.getfield 81, 3) := by decide +kernel
theorem dX7_wishTold_39 : decode cX7_wishTold 39 = .ok (.iload_n 1, 1) := by decide +kernel
theorem dX7_wishTold_40 : decode cX7_wishTold 40 = .ok (.iaload, 1) := by decide +kernel
theorem dX7_wishTold_41 : decode cX7_wishTold 41 = .ok (.iastore, 1) := by decide +kernel
theorem dX7_wishTold_42 : decode cX7_wishTold 42 = .ok (.dup, 1) := by decide +kernel
theorem dX7_wishTold_43 : decode cX7_wishTold 43 = .ok (.iconst 4, 1) := by decide +kernel
theorem dX7_wishTold_44 : decode cX7_wishTold 44 = .ok (.aload_n 0, 1) := by decide +kernel
theorem dX7_wishTold_45 : decode cX7_wishTold 45 = .ok (.getfield 39, 3) := by decide +kernel
theorem dX7_wishTold_48 : decode cX7_wishTold 48 = .ok (.getfield 71, 3) := by decide +kernel
theorem dX7_wishTold_51 : decode cX7_wishTold 51 = .ok (.iload_n 1, 1) := by decide +kernel
theorem dX7_wishTold_52 : decode cX7_wishTold 52 = .ok (.iaload, 1) := by decide +kernel
theorem dX7_wishTold_53 : decode cX7_wishTold 53 = .ok (.iastore, 1) := by decide +kernel
theorem dX7_wishTold_54 : decode cX7_wishTold 54 = .ok (.astore_n 3, 1) := by decide +kernel
theorem dX7_wishTold_55 : decode cX7_wishTold 55 = .ok (.aload_n 3, 1) := by decide +kernel
theorem dX7_wishTold_56 : decode cX7_wishTold 56 = .ok (.iload_n 2, 1) := by decide +kernel
theorem dX7_wishTold_57 : decode cX7_wishTold 57 = .ok (.iaload, 1) := by decide +kernel
theorem dX7_wishTold_58 : decode cX7_wishTold 58 = .ok (.ireturn, 1) := by decide +kernel
set_option maxRecDepth 20000 in
theorem ggX7_told_X7_isWish : GoodIn wsX7_told wsX7_isWish := goodIn_r _ [6, 7, 8, 9, 5, 10, 24, 25, 26, 27, 28, 29, 30, 31, 32, 33, 34, 35, 36, 37, 38] (by decide +kernel) (by decide +kernel)
set_option maxRecDepth 20000 in
theorem gX7_told_X7_isWish : GoodIn wsX7_told (wsV RX7 78 RX7 yX7_isWish wsX7_isWish) := goodIn_app (goodIn_of _ (by decide +kernel)) ggX7_told_X7_isWish
set_option maxRecDepth 20000 in
theorem ggX7_told_X7_isIn : GoodIn wsX7_told wsX7_isIn := goodIn_r _ [10] (by decide +kernel) (by decide +kernel)
set_option maxRecDepth 20000 in
theorem gX7_told_X7_isIn : GoodIn wsX7_told (va_wsS RX7 53 yX7_isIn wsX7_isIn) := goodIn_app (goodIn_of _ (by decide +kernel)) ggX7_told_X7_isIn
set_option maxRecDepth 20000 in
theorem ggX7_told_X7_wishTold : GoodIn wsX7_told wsX7_wishTold := goodIn_ca (goodIn_r _ [14, 15, 16, 17, 18, 19, 24, 25, 26, 27, 28, 29, 30, 31, 32, 33, 34, 35, 36, 37, 38, 39, 40, 41, 42, 43, 44, 45, 46] (by decide +kernel) (by decide +kernel)) (goodIn_sub (fun _ h => List.mem_cons_of_mem _ (List.mem_append_right _ h)) (by decide +kernel))
set_option maxRecDepth 20000 in
theorem gX7_told_X7_wishTold : GoodIn wsX7_told (wsV RX7 123 RX7 yX7_wishTold wsX7_wishTold) := goodIn_app (goodIn_of _ (by decide +kernel)) ggX7_told_X7_wishTold
set_option maxRecDepth 20000 in
theorem ggX7_told_X7_no : GoodIn wsX7_told wsX7_no := goodIn_r _ [23, 1, 24, 25, 26, 27, 28, 29, 30, 31, 32, 33, 34, 35, 36, 37, 38] (by decide +kernel) (by decide +kernel)
set_option maxRecDepth 20000 in
theorem gX7_told_X7_no : GoodIn wsX7_told (wsV RX7 60 RX7 yX7_no wsX7_no) := goodIn_app (goodIn_of _ (by decide +kernel)) ggX7_told_X7_no
theorem dX7_told_0 : decode cX7_told 0 = .ok (.aload_n 0, 1) := by decide +kernel
theorem dX7_told_1 : decode cX7_told 1 = .ok (.iconst 0, 1) := by decide +kernel
theorem dX7_told_2 : decode cX7_told 2 = .ok (.putfield 46, 3) := by decide +kernel
theorem dX7_told_5 : decode cX7_told 5 = .ok (.aload_n 0, 1) := by decide +kernel
theorem dX7_told_6 : decode cX7_told 6 = .ok (.iload_n 1, 1) := by decide +kernel
theorem dX7_told_7 : decode cX7_told 7 = .ok (.invokevirtual 78, 3) := by decide +kernel
theorem dX7_told_10 : decode cX7_told 10 = .ok (.ifCond .eq 21, 3) := by decide +kernel
theorem dX7_told_13 : decode cX7_told 13 = .ok (.iload_n 2, 1) := by decide +kernel
theorem dX7_told_14 : decode cX7_told 14 = .ok (.iconst 0, 1) := by decide +kernel
theorem dX7_told_15 : decode cX7_told 15 = .ok (.iconst 4, 1) := by decide +kernel
theorem dX7_told_16 : decode cX7_told 16 = .ok (.invokestatic 53, 3) := by decide +kernel
theorem dX7_told_19 : decode cX7_told 19 = .ok (.ifCond .eq 12, 3) := by decide +kernel
theorem dX7_told_22 : decode cX7_told 22 = .ok (.aload_n 0, 1) := by decide +kernel
theorem dX7_told_23 : decode cX7_told 23 = .ok (.iload_n 1, 1) := by decide +kernel
theorem dX7_told_24 : decode cX7_told 24 = .ok (.iload_n 2, 1) := by decide +kernel
theorem dX7_told_25 : decode cX7_told 25 = .ok (.invokevirtual 123, 3) := by decide +kernel
theorem dX7_told_28 : decode cX7_told 28 = .ok (.goto 8, 3) := by decide +kernel
theorem dX7_told_31 : decode cX7_told 31 = .ok (.aload_n 0, 1) := by decide +kernel
theorem dX7_told_32 : decode cX7_told 32 = .ok (.iconst 1, 1) := by decide +kernel
theorem dX7_told_33 : decode cX7_told 33 = .ok (.invokevirtual 60, 3) := by decide +kernel
theorem dX7_told_36 : decode cX7_told 36 = .ok (.ireturn, 1) := by decide +kernel
set_option maxRecDepth 20000 in
theorem ggX7_counted_X6_coins : GoodIn wsX7_counted wsX6_coins := goodIn_ca (goodIn_r _ [11, 12, 37, 38, 39, 40, 41, 42, 43, 44] (by decide +kernel) (by decide +kernel)) (goodIn_sub (fun _ h => List.mem_cons_of_mem _ (List.mem_append_right _ h)) (by decide +kernel))
set_option maxRecDepth 20000 in
theorem gX7_counted_X6_coins : GoodIn wsX7_counted (wsV RX7 102 RX6 yX6_coins wsX6_coins) := goodIn_app (goodIn_of _ (by decide +kernel)) ggX7_counted_X6_coins
set_option maxRecDepth 20000 in
theorem ggX7_counted_X6_allWorth : GoodIn wsX7_counted wsX6_allWorth := goodIn_ca (goodIn_r _ [16, 17, 18, 19, 10, 20, 21, 12, 37, 38, 39, 40, 41, 42, 43, 44, 22, 23, 24, 25, 26, 27, 28, 29, 30, 31, 32, 33, 34, 35, 36] (by decide +kernel) (by decide +kernel)) (goodIn_sub (fun _ h => List.mem_cons_of_mem _ (List.mem_append_right _ h)) (by decide +kernel))
set_option maxRecDepth 20000 in
theorem gX7_counted_X6_allWorth : GoodIn wsX7_counted (wsV RX7 129 RX6 yX6_allWorth wsX6_allWorth) := goodIn_app (goodIn_of _ (by decide +kernel)) ggX7_counted_X6_allWorth
theorem dX7_counted_0 : decode cX7_counted 0 = .ok (.iconst 3, 1) := by decide +kernel
theorem dX7_counted_1 : decode cX7_counted 1 = .ok (.newarray .int, 2) := by decide +kernel
theorem dX7_counted_3 : decode cX7_counted 3 = .ok (.astore_n 2, 1) := by decide +kernel
theorem dX7_counted_4 : decode cX7_counted 4 = .ok (.iconst 0, 1) := by decide +kernel
theorem dX7_counted_5 : decode cX7_counted 5 = .ok (.istore_n 3, 1) := by decide +kernel
theorem dX7_counted_6 : decode cX7_counted 6 = .ok (.iload_n 3, 1) := by decide +kernel
theorem dX7_counted_7 : decode cX7_counted 7 = .ok (.aload_n 0, 1) := by decide +kernel
theorem dX7_counted_8 : decode cX7_counted 8 = .ok (.getfield 57, 3) := by decide +kernel
theorem dX7_counted_11 : decode cX7_counted 11 = .ok (.if_icmp .ge 24, 3) := by decide +kernel
theorem dX7_counted_14 : decode cX7_counted 14 = .ok (.aload_n 2, 1) := by decide +kernel
theorem dX7_counted_15 : decode cX7_counted 15 = .ok (.aload_n 0, 1) := by decide +kernel
theorem dX7_counted_16 : decode cX7_counted 16 = .ok (.getfield 39, 3) := by decide +kernel
theorem dX7_counted_19 : decode cX7_counted 19 = .ok (.getfield 81, 3) := by decide +kernel
theorem dX7_counted_22 : decode cX7_counted 22 = .ok (.iload_n 3, 1) := by decide +kernel
theorem dX7_counted_23 : decode cX7_counted 23 = .ok (.iaload, 1) := by decide +kernel
theorem dX7_counted_24 : decode cX7_counted 24 = .ok (.dup2, 1) := by decide +kernel
theorem dX7_counted_25 : decode cX7_counted 25 = .ok (.iaload, 1) := by decide +kernel
theorem dX7_counted_26 : decode cX7_counted 26 = .ok (.iconst 1, 1) := by decide +kernel
theorem dX7_counted_27 : decode cX7_counted 27 = .ok (.iadd, 1) := by decide +kernel
theorem dX7_counted_28 : decode cX7_counted 28 = .ok (.iastore, 1) := by decide +kernel
theorem dX7_counted_29 : decode cX7_counted 29 = .ok (.iinc 3 1, 3) := by decide +kernel
theorem dX7_counted_32 : decode cX7_counted 32 = .ok (.goto (-26), 3) := by decide +kernel
theorem dX7_counted_35 : decode cX7_counted 35 = .ok (.iconst 0, 1) := by decide +kernel
theorem dX7_counted_36 : decode cX7_counted 36 = .ok (.istore_n 3, 1) := by decide +kernel
theorem dX7_counted_37 : decode cX7_counted 37 = .ok (.iconst 0, 1) := by decide +kernel
theorem dX7_counted_38 : decode cX7_counted 38 = .ok (.istore 4, 2) := by decide +kernel
theorem dX7_counted_40 : decode cX7_counted 40 = .ok (.iload 4, 2) := by decide +kernel
theorem dX7_counted_42 : decode cX7_counted 42 = .ok (.iconst 5, 1) := by decide +kernel
theorem dX7_counted_43 : decode cX7_counted 43 = .ok (.if_icmp .ge 21, 3) := by decide +kernel
theorem dX7_counted_46 : decode cX7_counted 46 = .ok (.iload_n 3, 1) := by decide +kernel
theorem dX7_counted_47 : decode cX7_counted 47 = .ok (.aload_n 0, 1) := by decide +kernel
theorem dX7_counted_48 : decode cX7_counted 48 = .ok (.getfield 39, 3) := by decide +kernel
theorem dX7_counted_51 : decode cX7_counted 51 = .ok (.iload 4, 2) := by decide +kernel
theorem dX7_counted_53 : decode cX7_counted 53 = .ok (.invokevirtual 102, 3) := by decide +kernel
theorem dX7_counted_56 : decode cX7_counted 56 = .ok (.iadd, 1) := by decide +kernel
theorem dX7_counted_57 : decode cX7_counted 57 = .ok (.istore_n 3, 1) := by decide +kernel
theorem dX7_counted_58 : decode cX7_counted 58 = .ok (.iinc 4 1, 3) := by decide +kernel
theorem dX7_counted_61 : decode cX7_counted 61 = .ok (.goto (-21), 3) := by decide +kernel
theorem dX7_counted_64 : decode cX7_counted 64 = .ok (.bipush 11, 2) := by decide +kernel
theorem dX7_counted_66 : decode cX7_counted 66 = .ok (.newarray .int, 2) := by decide +kernel
theorem dX7_counted_68 : decode cX7_counted 68 = .ok (.dup, 1) := by decide +kernel
theorem dX7_counted_69 : decode cX7_counted 69 = .ok (.iconst 0, 1) := by decide +kernel
theorem dX7_counted_70 : decode cX7_counted 70 = .ok (.aload_n 0, 1) := by decide +kernel
theorem dX7_counted_71 : decode cX7_counted 71 = .ok (.getfield 39, 3) := by decide +kernel
theorem dX7_counted_74 : decode cX7_counted 74 = .ok (.getfield 68, 3) := by decide +kernel
theorem dX7_counted_77 : decode cX7_counted 77 = .ok (.iastore, 1) := by decide +kernel
theorem dX7_counted_78 : decode cX7_counted 78 = .ok (.dup, 1) := by decide +kernel
theorem dX7_counted_79 : decode cX7_counted 79 = .ok (.iconst 1, 1) := by decide +kernel
theorem dX7_counted_80 : decode cX7_counted 80 = .ok (.aload_n 0, 1) := by decide +kernel
theorem dX7_counted_81 : decode cX7_counted 81 = .ok (.getfield 50, 3) := by decide +kernel
theorem dX7_counted_84 : decode cX7_counted 84 = .ok (.iastore, 1) := by decide +kernel
theorem dX7_counted_85 : decode cX7_counted 85 = .ok (.dup, 1) := by decide +kernel
theorem dX7_counted_86 : decode cX7_counted 86 = .ok (.iconst 2, 1) := by decide +kernel
theorem dX7_counted_87 : decode cX7_counted 87 = .ok (.aload_n 0, 1) := by decide +kernel
theorem dX7_counted_88 : decode cX7_counted 88 = .ok (.getfield 57, 3) := by decide +kernel
theorem dX7_counted_91 : decode cX7_counted 91 = .ok (.iastore, 1) := by decide +kernel
theorem dX7_counted_92 : decode cX7_counted 92 = .ok (.dup, 1) := by decide +kernel
theorem dX7_counted_93 : decode cX7_counted 93 = .ok (.iconst 3, 1) := by decide +kernel
theorem dX7_counted_94 : decode cX7_counted 94 = .ok (.aload_n 2, 1) := by decide +kernel
theorem dX7_counted_95 : decode cX7_counted 95 = .ok (.iconst 0, 1) := by decide +kernel
theorem dX7_counted_96 : decode cX7_counted 96 = .ok (.iaload, 1) := by decide +kernel
theorem dX7_counted_97 : decode cX7_counted 97 = .ok (.iastore, 1) := by decide +kernel
theorem dX7_counted_98 : decode cX7_counted 98 = .ok (.dup, 1) := by decide +kernel
theorem dX7_counted_99 : decode cX7_counted 99 = .ok (.iconst 4, 1) := by decide +kernel
theorem dX7_counted_100 : decode cX7_counted 100 = .ok (.aload_n 2, 1) := by decide +kernel
theorem dX7_counted_101 : decode cX7_counted 101 = .ok (.iconst 1, 1) := by decide +kernel
theorem dX7_counted_102 : decode cX7_counted 102 = .ok (.iaload, 1) := by decide +kernel
theorem dX7_counted_103 : decode cX7_counted 103 = .ok (.iastore, 1) := by decide +kernel
theorem dX7_counted_104 : decode cX7_counted 104 = .ok (.dup, 1) := by decide +kernel
theorem dX7_counted_105 : decode cX7_counted 105 = .ok (.iconst 5, 1) := by decide +kernel
theorem dX7_counted_106 : decode cX7_counted 106 = .ok (.aload_n 0, 1) := by decide +kernel
theorem dX7_counted_107 : decode cX7_counted 107 = .ok (.getfield 39, 3) := by decide +kernel
theorem dX7_counted_110 : decode cX7_counted 110 = .ok (.getfield 84, 3) := by decide +kernel
theorem dX7_counted_113 : decode cX7_counted 113 = .ok (.iastore, 1) := by decide +kernel
theorem dX7_counted_114 : decode cX7_counted 114 = .ok (.dup, 1) := by decide +kernel
theorem dX7_counted_115 : decode cX7_counted 115 = .ok (.bipush 6, 2) := by decide +kernel
theorem dX7_counted_117 : decode cX7_counted 117 = .ok (.aload_n 0, 1) := by decide +kernel
theorem dX7_counted_118 : decode cX7_counted 118 = .ok (.getfield 39, 3) := by decide +kernel
theorem dX7_counted_121 : decode cX7_counted 121 = .ok (.getfield 126, 3) := by decide +kernel
theorem dX7_counted_124 : decode cX7_counted 124 = .ok (.iastore, 1) := by decide +kernel
theorem dX7_counted_125 : decode cX7_counted 125 = .ok (.dup, 1) := by decide +kernel
theorem dX7_counted_126 : decode cX7_counted 126 = .ok (.bipush 7, 2) := by decide +kernel
theorem dX7_counted_128 : decode cX7_counted 128 = .ok (.iload_n 3, 1) := by decide +kernel
theorem dX7_counted_129 : decode cX7_counted 129 = .ok (.iastore, 1) := by decide +kernel
theorem dX7_counted_130 : decode cX7_counted 130 = .ok (.dup, 1) := by decide +kernel
theorem dX7_counted_131 : decode cX7_counted 131 = .ok (.bipush 8, 2) := by decide +kernel
theorem dX7_counted_133 : decode cX7_counted 133 = .ok (.aload_n 0, 1) := by decide +kernel
theorem dX7_counted_134 : decode cX7_counted 134 = .ok (.getfield 39, 3) := by decide +kernel
theorem dX7_counted_137 : decode cX7_counted 137 = .ok (.invokevirtual 129, 3) := by decide +kernel
theorem dX7_counted_140 : decode cX7_counted 140 = .ok (.iastore, 1) := by decide +kernel
theorem dX7_counted_141 : decode cX7_counted 141 = .ok (.dup, 1) := by decide +kernel
theorem dX7_counted_142 : decode cX7_counted 142 = .ok (.bipush 9, 2) := by decide +kernel
theorem dX7_counted_144 : decode cX7_counted 144 = .ok (.aload_n 0, 1) := by decide +kernel
theorem dX7_counted_145 : decode cX7_counted 145 = .ok (.getfield 105, 3) := by decide +kernel
theorem dX7_counted_148 : decode cX7_counted 148 = .ok (.iastore, 1) := by decide +kernel
theorem dX7_counted_149 : decode cX7_counted 149 = .ok (.dup, 1) := by decide +kernel
theorem dX7_counted_150 : decode cX7_counted 150 = .ok (.bipush 10, 2) := by decide +kernel
theorem dX7_counted_152 : decode cX7_counted 152 = .ok (.aload_n 0, 1) := by decide +kernel
theorem dX7_counted_153 : decode cX7_counted 153 = .ok (.getfield 99, 3) := by decide +kernel
theorem dX7_counted_156 : decode cX7_counted 156 = .ok (.iastore, 1) := by decide +kernel
theorem dX7_counted_157 : decode cX7_counted 157 = .ok (.astore 4, 2) := by decide +kernel
theorem dX7_counted_159 : decode cX7_counted 159 = .ok (.aload 4, 2) := by decide +kernel
theorem dX7_counted_161 : decode cX7_counted 161 = .ok (.iload_n 1, 1) := by decide +kernel
theorem dX7_counted_162 : decode cX7_counted 162 = .ok (.iaload, 1) := by decide +kernel
theorem dX7_counted_163 : decode cX7_counted 163 = .ok (.ireturn, 1) := by decide +kernel
set_option maxRecDepth 20000 in
theorem ggX7_count_X7_isIn : GoodIn wsX7_count wsX7_isIn := goodIn_r _ [5] (by decide +kernel) (by decide +kernel)
set_option maxRecDepth 20000 in
theorem gX7_count_X7_isIn : GoodIn wsX7_count (va_wsS RX7 53 yX7_isIn wsX7_isIn) := goodIn_app (goodIn_of _ (by decide +kernel)) ggX7_count_X7_isIn
set_option maxRecDepth 20000 in
theorem ggX7_count_X7_counted : GoodIn wsX7_count wsX7_counted := goodIn_ca (goodIn_r _ [9, 10, 11, 12, 13, 14, 15, 16, 17, 18, 19, 20, 21, 22, 23, 24, 25, 26, 27, 28, 29, 30, 35, 36, 37, 38, 39, 40, 41, 42, 43, 44, 45, 46, 47, 48, 49, 50, 51, 52, 53, 54, 55, 56, 57] (by decide +kernel) (by decide +kernel)) (goodIn_sub (fun _ h => List.mem_cons_of_mem _ (List.mem_append_right _ h)) (by decide +kernel))
set_option maxRecDepth 20000 in
theorem gX7_count_X7_counted : GoodIn wsX7_count (wsV RX7 133 RX7 yX7_counted wsX7_counted) := goodIn_app (goodIn_of _ (by decide +kernel)) ggX7_count_X7_counted
set_option maxRecDepth 20000 in
theorem ggX7_count_X7_no : GoodIn wsX7_count wsX7_no := goodIn_r _ [34, 1, 35, 36, 37, 38, 39, 40, 41, 42, 43, 44, 45, 46, 47, 48, 49] (by decide +kernel) (by decide +kernel)
set_option maxRecDepth 20000 in
theorem gX7_count_X7_no : GoodIn wsX7_count (wsV RX7 60 RX7 yX7_no wsX7_no) := goodIn_app (goodIn_of _ (by decide +kernel)) ggX7_count_X7_no
theorem dX7_count_0 : decode cX7_count 0 = .ok (.aload_n 0, 1) := by decide +kernel
theorem dX7_count_1 : decode cX7_count 1 = .ok (.iconst 0, 1) := by decide +kernel
theorem dX7_count_2 : decode cX7_count 2 = .ok (.putfield 46, 3) := by decide +kernel
theorem dX7_count_5 : decode cX7_count 5 = .ok (.iload_n 1, 1) := by decide +kernel
theorem dX7_count_6 : decode cX7_count 6 = .ok (.iconst 0, 1) := by decide +kernel
theorem dX7_count_7 : decode cX7_count 7 = .ok (.bipush 10, 2) := by decide +kernel
theorem dX7_count_9 : decode cX7_count 9 = .ok (.invokestatic 53, 3) := by decide +kernel
theorem dX7_count_12 : decode cX7_count 12 = .ok (.ifCond .eq 11, 3) := by decide +kernel
theorem dX7_count_15 : decode cX7_count 15 = .ok (.aload_n 0, 1) := by decide +kernel
theorem dX7_count_16 : decode cX7_count 16 = .ok (.iload_n 1, 1) := by decide +kernel
theorem dX7_count_17 : decode cX7_count 17 = .ok (.invokevirtual 133, 3) := by decide +kernel
theorem dX7_count_20 : decode cX7_count 20 = .ok (.goto 8, 3) := by decide +kernel
theorem dX7_count_23 : decode cX7_count 23 = .ok (.aload_n 0, 1) := by decide +kernel
theorem dX7_count_24 : decode cX7_count 24 = .ok (.iconst 1, 1) := by decide +kernel
theorem dX7_count_25 : decode cX7_count 25 = .ok (.invokevirtual 60, 3) := by decide +kernel
theorem dX7_count_28 : decode cX7_count 28 = .ok (.ireturn, 1) := by decide +kernel
set_option maxRecDepth 20000 in
theorem ggX7_pass_X7_isIn : GoodIn wsX7_pass wsX7_isIn := goodIn_r _ [6] (by decide +kernel) (by decide +kernel)
set_option maxRecDepth 20000 in
theorem gX7_pass_X7_isIn : GoodIn wsX7_pass (va_wsS RX7 53 yX7_isIn wsX7_isIn) := goodIn_app (goodIn_of _ (by decide +kernel)) ggX7_pass_X7_isIn
set_option maxRecDepth 20000 in
theorem ggX7_pass_X7_no : GoodIn wsX7_pass wsX7_no := goodIn_r _ [10, 1, 36, 37, 38, 39, 40, 41, 42, 43, 44, 45, 46, 47, 48, 49, 50] (by decide +kernel) (by decide +kernel)
set_option maxRecDepth 20000 in
theorem gX7_pass_X7_no : GoodIn wsX7_pass (wsV RX7 60 RX7 yX7_no wsX7_no) := goodIn_app (goodIn_of _ (by decide +kernel)) ggX7_pass_X7_no
set_option maxRecDepth 20000 in
theorem ggX7_pass_X6_pass : GoodIn wsX7_pass wsX6_pass := goodIn_ca (goodIn_r _ [15, 16, 17, 18, 19, 20, 21, 22, 23, 24, 25, 26, 27, 28, 29, 14, 30, 31, 32, 33, 34, 35, 51, 52, 53, 54, 55, 56, 57, 58, 36, 37, 38, 39, 40, 41, 42, 43, 44, 45, 46, 47, 48, 49, 50] (by decide +kernel) (by decide +kernel)) (goodIn_sub (fun _ h => List.mem_cons_of_mem _ (List.mem_append_right _ h)) (by decide +kernel))
set_option maxRecDepth 20000 in
theorem gX7_pass_X6_pass : GoodIn wsX7_pass (wsV RX7 136 RX6 yX6_pass wsX6_pass) := goodIn_app (goodIn_of _ (by decide +kernel)) ggX7_pass_X6_pass
theorem dX7_pass_0 : decode cX7_pass 0 = .ok (.aload_n 0, 1) := by decide +kernel
theorem dX7_pass_1 : decode cX7_pass 1 = .ok (.iconst 0, 1) := by decide +kernel
theorem dX7_pass_2 : decode cX7_pass 2 = .ok (.putfield 46, 3) := by decide +kernel
theorem dX7_pass_5 : decode cX7_pass 5 = .ok (.iload_n 1, 1) := by decide +kernel
theorem dX7_pass_6 : decode cX7_pass 6 = .ok (.iconst 1, 1) := by decide +kernel
theorem dX7_pass_7 : decode cX7_pass 7 = .ok (.bipush 100, 2) := by decide +kernel
theorem dX7_pass_9 : decode cX7_pass 9 = .ok (.invokestatic 53, 3) := by decide +kernel
theorem dX7_pass_12 : decode cX7_pass 12 = .ok (.ifCond .ne 9, 3) := by decide +kernel
theorem dX7_pass_15 : decode cX7_pass 15 = .ok (.aload_n 0, 1) := by decide +kernel
theorem dX7_pass_16 : decode cX7_pass 16 = .ok (.iconst 1, 1) := by decide +kernel
theorem dX7_pass_17 : decode cX7_pass 17 = .ok (.invokevirtual 60, 3) := by decide +kernel
theorem dX7_pass_20 : decode cX7_pass 20 = .ok (.ireturn, 1) := by decide +kernel
theorem dX7_pass_21 : decode cX7_pass 21 = .ok (.iconst 0, 1) := by decide +kernel
theorem dX7_pass_22 : decode cX7_pass 22 = .ok (.istore_n 2, 1) := by decide +kernel
theorem dX7_pass_23 : decode cX7_pass 23 = .ok (.iconst 0, 1) := by decide +kernel
theorem dX7_pass_24 : decode cX7_pass 24 = .ok (.istore_n 3, 1) := by decide +kernel
theorem dX7_pass_25 : decode cX7_pass 25 = .ok (.iload_n 3, 1) := by decide +kernel
theorem dX7_pass_26 : decode cX7_pass 26 = .ok (.iload_n 1, 1) := by decide +kernel
theorem dX7_pass_27 : decode cX7_pass 27 = .ok (.if_icmp .ge 27, 3) := by decide +kernel
theorem dX7_pass_30 : decode cX7_pass 30 = .ok (.iload_n 2, 1) := by decide +kernel
theorem dX7_pass_31 : decode cX7_pass 31 = .ok (.aload_n 0, 1) := by decide +kernel
theorem dX7_pass_32 : decode cX7_pass 32 = .ok (.getfield 39, 3) := by decide +kernel
theorem dX7_pass_35 : decode cX7_pass 35 = .ok (.invokevirtual 136, 3) := by decide +kernel
theorem dX7_pass_38 : decode cX7_pass 38 = .ok (.ifCond .eq 7, 3) := by decide +kernel
theorem dX7_pass_41 : decode cX7_pass 41 = .ok (.iconst 1, 1) := by decide +kernel
theorem dX7_pass_42 : decode cX7_pass 42 = .ok (.goto 4, 3) := by decide +kernel
theorem dX7_pass_45 : decode cX7_pass 45 = .ok (.iconst 0, 1) := by decide +kernel
theorem dX7_pass_46 : decode cX7_pass 46 = .ok (.iadd, 1) := by decide +kernel
theorem dX7_pass_47 : decode cX7_pass 47 = .ok (.istore_n 2, 1) := by decide +kernel
theorem dX7_pass_48 : decode cX7_pass 48 = .ok (.iinc 3 1, 3) := by decide +kernel
theorem dX7_pass_51 : decode cX7_pass 51 = .ok (.goto (-26), 3) := by decide +kernel
theorem dX7_pass_54 : decode cX7_pass 54 = .ok (.iload_n 2, 1) := by decide +kernel
theorem dX7_pass_55 : decode cX7_pass 55 = .ok (.ireturn, 1) := by decide +kernel
set_option maxRecDepth 20000 in
theorem ggX7_next_X7_isIn : GoodIn wsX7_next wsX7_isIn := goodIn_r _ [6] (by decide +kernel) (by decide +kernel)
set_option maxRecDepth 20000 in
theorem gX7_next_X7_isIn : GoodIn wsX7_next (va_wsS RX7 53 yX7_isIn wsX7_isIn) := goodIn_app (goodIn_of _ (by decide +kernel)) ggX7_next_X7_isIn
set_option maxRecDepth 20000 in
theorem ggX7_next_X6_next : GoodIn wsX7_next wsX6_next := goodIn_ca (goodIn_r _ [11, 12, 13, 33, 34, 35, 36, 37, 38, 39, 40, 18, 19, 20, 21, 22, 23, 24, 25, 26, 27, 28, 29, 30, 31, 32] (by decide +kernel) (by decide +kernel)) (goodIn_sub (fun _ h => List.mem_cons_of_mem _ (List.mem_append_right _ h)) (by decide +kernel))
set_option maxRecDepth 20000 in
theorem gX7_next_X6_next : GoodIn wsX7_next (wsV RX7 140 RX6 yX6_next wsX6_next) := goodIn_app (goodIn_of _ (by decide +kernel)) ggX7_next_X6_next
set_option maxRecDepth 20000 in
theorem ggX7_next_X7_no : GoodIn wsX7_next wsX7_no := goodIn_r _ [17, 1, 18, 19, 20, 21, 22, 23, 24, 25, 26, 27, 28, 29, 30, 31, 32] (by decide +kernel) (by decide +kernel)
set_option maxRecDepth 20000 in
theorem gX7_next_X7_no : GoodIn wsX7_next (wsV RX7 60 RX7 yX7_no wsX7_no) := goodIn_app (goodIn_of _ (by decide +kernel)) ggX7_next_X7_no
theorem dX7_next_0 : decode cX7_next 0 = .ok (.aload_n 0, 1) := by decide +kernel
theorem dX7_next_1 : decode cX7_next 1 = .ok (.iconst 0, 1) := by decide +kernel
theorem dX7_next_2 : decode cX7_next 2 = .ok (.putfield 46, 3) := by decide +kernel
theorem dX7_next_5 : decode cX7_next 5 = .ok (.iload_n 1, 1) := by decide +kernel
theorem dX7_next_6 : decode cX7_next 6 = .ok (.iconst 0, 1) := by decide +kernel
theorem dX7_next_7 : decode cX7_next 7 = .ok (.iconst 3, 1) := by decide +kernel
theorem dX7_next_8 : decode cX7_next 8 = .ok (.invokestatic 53, 3) := by decide +kernel
theorem dX7_next_11 : decode cX7_next 11 = .ok (.ifCond .eq 14, 3) := by decide +kernel
theorem dX7_next_14 : decode cX7_next 14 = .ok (.aload_n 0, 1) := by decide +kernel
theorem dX7_next_15 : decode cX7_next 15 = .ok (.getfield 39, 3) := by decide +kernel
theorem dX7_next_18 : decode cX7_next 18 = .ok (.iload_n 1, 1) := by decide +kernel
theorem dX7_next_19 : decode cX7_next 19 = .ok (.invokevirtual 140, 3) := by decide +kernel
theorem dX7_next_22 : decode cX7_next 22 = .ok (.goto 8, 3) := by decide +kernel
theorem dX7_next_25 : decode cX7_next 25 = .ok (.aload_n 0, 1) := by decide +kernel
theorem dX7_next_26 : decode cX7_next 26 = .ok (.iconst 1, 1) := by decide +kernel
theorem dX7_next_27 : decode cX7_next 27 = .ok (.invokevirtual 60, 3) := by decide +kernel
theorem dX7_next_30 : decode cX7_next 30 = .ok (.ireturn, 1) := by decide +kernel
set_option maxRecDepth 20000 in
theorem ggX7_waits_X7_isWish : GoodIn wsX7_waits wsX7_isWish := goodIn_r _ [8, 9, 10, 11, 7, 12, 54, 55, 56, 57, 58, 59, 60, 61, 62, 63, 64, 65, 66, 67, 68] (by decide +kernel) (by decide +kernel)
set_option maxRecDepth 20000 in
theorem gX7_waits_X7_isWish : GoodIn wsX7_waits (wsV RX7 78 RX7 yX7_isWish wsX7_isWish) := goodIn_app (goodIn_of _ (by decide +kernel)) ggX7_waits_X7_isWish
set_option maxRecDepth 20000 in
theorem ggX7_waits_X7_no : GoodIn wsX7_waits wsX7_no := goodIn_r _ [16, 1, 54, 55, 56, 57, 58, 59, 60, 61, 62, 63, 64, 65, 66, 67, 68] (by decide +kernel) (by decide +kernel)
set_option maxRecDepth 20000 in
theorem gX7_waits_X7_no : GoodIn wsX7_waits (wsV RX7 60 RX7 yX7_no wsX7_no) := goodIn_app (goodIn_of _ (by decide +kernel)) ggX7_waits_X7_no
set_option maxRecDepth 20000 in
theorem ggX7_waits_X6_become : GoodIn wsX7_waits wsX6_become := goodIn_r _ [21, 22, 23, 24, 25, 26, 27, 28, 29, 30, 31, 20, 32, 33, 34, 35, 36, 69, 70, 71, 72, 73, 74, 75, 76] (by decide +kernel) (by decide +kernel)
set_option maxRecDepth 20000 in
theorem gX7_waits_X6_become : GoodIn wsX7_waits (wsV RX7 143 RX6 yX6_become wsX6_become) := goodIn_app (goodIn_of _ (by decide +kernel)) ggX7_waits_X6_become
set_option maxRecDepth 20000 in
theorem ggX7_waits_X6_pass : GoodIn wsX7_waits wsX6_pass := goodIn_ca (goodIn_r _ [40, 41, 22, 25, 24, 23, 27, 28, 42, 43, 44, 45, 46, 47, 48, 20, 49, 26, 50, 51, 52, 53, 69, 70, 71, 72, 73, 74, 75, 76, 54, 55, 56, 57, 58, 59, 60, 61, 62, 63, 64, 65, 66, 67, 68] (by decide +kernel) (by decide +kernel)) (goodIn_sub (fun _ h => List.mem_cons_of_mem _ (List.mem_append_right _ h)) (by decide +kernel))
set_option maxRecDepth 20000 in
theorem gX7_waits_X6_pass : GoodIn wsX7_waits (wsV RX7 136 RX6 yX6_pass wsX6_pass) := goodIn_app (goodIn_of _ (by decide +kernel)) ggX7_waits_X6_pass
theorem dX7_waits_0 : decode cX7_waits 0 = .ok (.aload_n 0, 1) := by decide +kernel
theorem dX7_waits_1 : decode cX7_waits 1 = .ok (.iconst 0, 1) := by decide +kernel
theorem dX7_waits_2 : decode cX7_waits 2 = .ok (.putfield 46, 3) := by decide +kernel
theorem dX7_waits_5 : decode cX7_waits 5 = .ok (.aload_n 0, 1) := by decide +kernel
theorem dX7_waits_6 : decode cX7_waits 6 = .ok (.iload_n 1, 1) := by decide +kernel
theorem dX7_waits_7 : decode cX7_waits 7 = .ok (.invokevirtual 78, 3) := by decide +kernel
theorem dX7_waits_10 : decode cX7_waits 10 = .ok (.ifCond .ne 9, 3) := by decide +kernel
theorem dX7_waits_13 : decode cX7_waits 13 = .ok (.aload_n 0, 1) := by decide +kernel
theorem dX7_waits_14 : decode cX7_waits 14 = .ok (.iconst 1, 1) := by decide +kernel
theorem dX7_waits_15 : decode cX7_waits 15 = .ok (.invokevirtual 60, 3) := by decide +kernel
theorem dX7_waits_18 : decode cX7_waits 18 = .ok (.ireturn, 1) := by decide +kernel
theorem dX7_waits_19 : decode cX7_waits 19 = .ok (.aload_n 0, 1) := by decide +kernel
theorem dX7_waits_20 : decode cX7_waits 20 = .ok (.getfield 43, 3) := by decide +kernel
theorem dX7_waits_23 : decode cX7_waits 23 = .ok (.aload_n 0, 1) := by decide +kernel
theorem dX7_waits_24 : decode cX7_waits 24 = .ok (.getfield 39, 3) := by decide +kernel
theorem dX7_waits_27 : decode cX7_waits 27 = .ok (.invokevirtual 143, 3) := by decide +kernel
theorem dX7_waits_30 : decode cX7_waits 30 = .ok (.iconst 0, 1) := by decide +kernel
theorem dX7_waits_31 : decode cX7_waits 31 = .ok (.istore_n 2, 1) := by decide +kernel
theorem dX7_waits_32 : decode cX7_waits 32 = .ok (.aload_n 0, 1) := by decide +kernel
theorem dX7_waits_33 : decode cX7_waits 33 = .ok (.getfield 43, 3) := by decide +kernel
theorem dX7_waits_36 : decode cX7_waits 36 = .ok (.getfield 81, 3) := by decide +kernel
theorem dX7_waits_39 : decode cX7_waits 39 = .ok (.iload_n 1, 1) := by decide +kernel
theorem dX7_waits_40 : decode cX7_waits 40 = .ok (.iaload, 1) := by decide +kernel
theorem dX7_waits_41 : decode cX7_waits 41 = .ok (.ifCond .ne 24, 3) := by decide +kernel
theorem dX7_waits_44 : decode cX7_waits 44 = .ok (.iload_n 2, 1) := by decide +kernel
theorem dX7_waits_45 : decode cX7_waits 45 = .ok (.sipush 200, 3) := by decide +kernel
theorem dX7_waits_48 : decode cX7_waits 48 = .ok (.if_icmp .ge 17, 3) := by decide +kernel
theorem dX7_waits_51 : decode cX7_waits 51 = .ok (.aload_n 0, 1) := by decide +kernel
theorem dX7_waits_52 : decode cX7_waits 52 = .ok (.getfield 43, 3) := by decide +kernel
theorem dX7_waits_55 : decode cX7_waits 55 = .ok (.invokevirtual 136, 3) := by decide +kernel
theorem dX7_waits_58 : decode cX7_waits 58 = .ok (.pop, 1) := by decide +kernel
theorem dX7_waits_59 : decode cX7_waits 59 = .ok (.iinc 2 1, 3) := by decide +kernel
theorem dX7_waits_62 : decode cX7_waits 62 = .ok (.goto (-30), 3) := by decide +kernel
theorem dX7_waits_65 : decode cX7_waits 65 = .ok (.aload_n 0, 1) := by decide +kernel
theorem dX7_waits_66 : decode cX7_waits 66 = .ok (.getfield 43, 3) := by decide +kernel
theorem dX7_waits_69 : decode cX7_waits 69 = .ok (.getfield 81, 3) := by decide +kernel
theorem dX7_waits_72 : decode cX7_waits 72 = .ok (.iload_n 1, 1) := by decide +kernel
theorem dX7_waits_73 : decode cX7_waits 73 = .ok (.iaload, 1) := by decide +kernel
theorem dX7_waits_74 : decode cX7_waits 74 = .ok (.iconst 1, 1) := by decide +kernel
theorem dX7_waits_75 : decode cX7_waits 75 = .ok (.if_icmp .ne 7, 3) := by decide +kernel
theorem dX7_waits_78 : decode cX7_waits 78 = .ok (.iload_n 2, 1) := by decide +kernel
theorem dX7_waits_79 : decode cX7_waits 79 = .ok (.goto 4, 3) := by decide +kernel
theorem dX7_waits_82 : decode cX7_waits 82 = .ok (.iconst (-1), 1) := by decide +kernel
theorem dX7_waits_83 : decode cX7_waits 83 = .ok (.ireturn, 1) := by decide +kernel
set_option maxRecDepth 20000 in
theorem ggX7_foresee_X7_isIn : GoodIn wsX7_foresee wsX7_isIn := goodIn_r _ [7] (by decide +kernel) (by decide +kernel)
set_option maxRecDepth 20000 in
theorem gX7_foresee_X7_isIn : GoodIn wsX7_foresee (va_wsS RX7 53 yX7_isIn wsX7_isIn) := goodIn_app (goodIn_of _ (by decide +kernel)) ggX7_foresee_X7_isIn
set_option maxRecDepth 20000 in
theorem ggX7_foresee_X7_no : GoodIn wsX7_foresee wsX7_no := goodIn_r _ [11, 1, 61, 62, 63, 64, 65, 66, 67, 68, 69, 70, 71, 72, 73, 74, 75] (by decide +kernel) (by decide +kernel)
set_option maxRecDepth 20000 in
theorem gX7_foresee_X7_no : GoodIn wsX7_foresee (wsV RX7 60 RX7 yX7_no wsX7_no) := goodIn_app (goodIn_of _ (by decide +kernel)) ggX7_foresee_X7_no
set_option maxRecDepth 20000 in
theorem ggX7_foresee_X6_become : GoodIn wsX7_foresee wsX6_become := goodIn_r _ [16, 17, 18, 19, 20, 21, 22, 23, 24, 25, 26, 15, 27, 28, 29, 30, 31, 76, 77, 78, 79, 80, 81, 82, 83] (by decide +kernel) (by decide +kernel)
set_option maxRecDepth 20000 in
theorem gX7_foresee_X6_become : GoodIn wsX7_foresee (wsV RX7 143 RX6 yX6_become wsX6_become) := goodIn_app (goodIn_of _ (by decide +kernel)) ggX7_foresee_X6_become
set_option maxRecDepth 20000 in
theorem ggX7_foresee_X6_pass : GoodIn wsX7_foresee wsX6_pass := goodIn_ca (goodIn_r _ [35, 36, 17, 20, 19, 18, 22, 23, 37, 38, 39, 40, 41, 42, 43, 15, 44, 21, 45, 46, 47, 48, 76, 77, 78, 79, 80, 81, 82, 83, 61, 62, 63, 64, 65, 66, 67, 68, 69, 70, 71, 72, 73, 74, 75] (by decide +kernel) (by decide +kernel)) (goodIn_sub (fun _ h => List.mem_cons_of_mem _ (List.mem_append_right _ h)) (by decide +kernel))
set_option maxRecDepth 20000 in
theorem gX7_foresee_X6_pass : GoodIn wsX7_foresee (wsV RX7 136 RX6 yX6_pass wsX6_pass) := goodIn_app (goodIn_of _ (by decide +kernel)) ggX7_foresee_X6_pass
set_option maxRecDepth 20000 in
theorem ggX7_foresee_X6_coins : GoodIn wsX7_foresee wsX6_coins := goodIn_ca (goodIn_r _ [52, 20, 76, 77, 78, 79, 80, 81, 82, 83] (by decide +kernel) (by decide +kernel)) (goodIn_sub (fun _ h => List.mem_cons_of_mem _ (List.mem_append_right _ h)) (by decide +kernel))
set_option maxRecDepth 20000 in
theorem gX7_foresee_X6_coins : GoodIn wsX7_foresee (wsV RX7 102 RX6 yX6_coins wsX6_coins) := goodIn_app (goodIn_of _ (by decide +kernel)) ggX7_foresee_X6_coins
set_option maxRecDepth 20000 in
theorem ggX7_foresee_X6_allWorth : GoodIn wsX7_foresee wsX6_allWorth := goodIn_ca (goodIn_r _ [56, 57, 58, 59, 15, 60, 36, 20, 76, 77, 78, 79, 80, 81, 82, 83, 61, 62, 63, 64, 65, 66, 67, 68, 69, 70, 71, 72, 73, 74, 75] (by decide +kernel) (by decide +kernel)) (goodIn_sub (fun _ h => List.mem_cons_of_mem _ (List.mem_append_right _ h)) (by decide +kernel))
set_option maxRecDepth 20000 in
theorem gX7_foresee_X6_allWorth : GoodIn wsX7_foresee (wsV RX7 129 RX6 yX6_allWorth wsX6_allWorth) := goodIn_app (goodIn_of _ (by decide +kernel)) ggX7_foresee_X6_allWorth
theorem dX7_foresee_0 : decode cX7_foresee 0 = .ok (.aload_n 0, 1) := by decide +kernel
theorem dX7_foresee_1 : decode cX7_foresee 1 = .ok (.iconst 0, 1) := by decide +kernel
theorem dX7_foresee_2 : decode cX7_foresee 2 = .ok (.putfield 46, 3) := by decide +kernel
theorem dX7_foresee_5 : decode cX7_foresee 5 = .ok (.iload_n 1, 1) := by decide +kernel
theorem dX7_foresee_6 : decode cX7_foresee 6 = .ok (.iconst 1, 1) := by decide +kernel
theorem dX7_foresee_7 : decode cX7_foresee 7 = .ok (.bipush 100, 2) := by decide +kernel
theorem dX7_foresee_9 : decode cX7_foresee 9 = .ok (.invokestatic 53, 3) := by decide +kernel
theorem dX7_foresee_12 : decode cX7_foresee 12 = .ok (.ifCond .ne 9, 3) := by decide +kernel
theorem dX7_foresee_15 : decode cX7_foresee 15 = .ok (.aload_n 0, 1) := by decide +kernel
theorem dX7_foresee_16 : decode cX7_foresee 16 = .ok (.iconst 1, 1) := by decide +kernel
theorem dX7_foresee_17 : decode cX7_foresee 17 = .ok (.invokevirtual 60, 3) := by decide +kernel
theorem dX7_foresee_20 : decode cX7_foresee 20 = .ok (.ireturn, 1) := by decide +kernel
theorem dX7_foresee_21 : decode cX7_foresee 21 = .ok (.iload_n 2, 1) := by decide +kernel
theorem dX7_foresee_22 : decode cX7_foresee 22 = .ok (.iconst 0, 1) := by decide +kernel
theorem dX7_foresee_23 : decode cX7_foresee 23 = .ok (.iconst 2, 1) := by decide +kernel
theorem dX7_foresee_24 : decode cX7_foresee 24 = .ok (.invokestatic 53, 3) := by decide +kernel
theorem dX7_foresee_27 : decode cX7_foresee 27 = .ok (.ifCond .ne 9, 3) := by decide +kernel
theorem dX7_foresee_30 : decode cX7_foresee 30 = .ok (.aload_n 0, 1) := by decide +kernel
theorem dX7_foresee_31 : decode cX7_foresee 31 = .ok (.iconst 2, 1) := by decide +kernel
theorem dX7_foresee_32 : decode cX7_foresee 32 = .ok (.invokevirtual 60, 3) := by decide +kernel
theorem dX7_foresee_35 : decode cX7_foresee 35 = .ok (.ireturn, 1) := by decide +kernel
theorem dX7_foresee_36 : decode cX7_foresee 36 = .ok (.aload_n 0, 1) := by decide +kernel
theorem dX7_foresee_37 : decode cX7_foresee 37 = .ok (.getfield 43, 3) := by decide +kernel
theorem dX7_foresee_40 : decode cX7_foresee 40 = .ok (.aload_n 0, 1) := by decide +kernel
theorem dX7_foresee_41 : decode cX7_foresee 41 = .ok (.getfield 39, 3) := by decide +kernel
theorem dX7_foresee_44 : decode cX7_foresee 44 = .ok (.invokevirtual 143, 3) := by decide +kernel
theorem dX7_foresee_47 : decode cX7_foresee 47 = .ok (.iconst 0, 1) := by decide +kernel
theorem dX7_foresee_48 : decode cX7_foresee 48 = .ok (.istore_n 3, 1) := by decide +kernel
theorem dX7_foresee_49 : decode cX7_foresee 49 = .ok (.iload_n 3, 1) := by decide +kernel
theorem dX7_foresee_50 : decode cX7_foresee 50 = .ok (.iload_n 1, 1) := by decide +kernel
theorem dX7_foresee_51 : decode cX7_foresee 51 = .ok (.if_icmp .ge 17, 3) := by decide +kernel
theorem dX7_foresee_54 : decode cX7_foresee 54 = .ok (.aload_n 0, 1) := by decide +kernel
theorem dX7_foresee_55 : decode cX7_foresee 55 = .ok (.getfield 43, 3) := by decide +kernel
theorem dX7_foresee_58 : decode cX7_foresee 58 = .ok (.invokevirtual 136, 3) := by decide +kernel
theorem dX7_foresee_61 : decode cX7_foresee 61 = .ok (.pop, 1) := by decide +kernel
theorem dX7_foresee_62 : decode cX7_foresee 62 = .ok (.iinc 3 1, 3) := by decide +kernel
theorem dX7_foresee_65 : decode cX7_foresee 65 = .ok (.goto (-16), 3) := by decide +kernel
theorem dX7_foresee_68 : decode cX7_foresee 68 = .ok (.iload_n 2, 1) := by decide +kernel
theorem dX7_foresee_69 : decode cX7_foresee 69 = .ok (.ifCond .ne 13, 3) := by decide +kernel
theorem dX7_foresee_72 : decode cX7_foresee 72 = .ok (.aload_n 0, 1) := by decide +kernel
theorem dX7_foresee_73 : decode cX7_foresee 73 = .ok (.getfield 43, 3) := by decide +kernel
theorem dX7_foresee_76 : decode cX7_foresee 76 = .ok (.getfield 84, 3) := by decide +kernel
theorem dX7_foresee_79 : decode cX7_foresee 79 = .ok (.goto 26, 3) := by decide +kernel
theorem dX7_foresee_82 : decode cX7_foresee 82 = .ok (.iload_n 2, 1) := by decide +kernel
theorem dX7_foresee_83 : decode cX7_foresee 83 = .ok (.iconst 1, 1) := by decide +kernel
theorem dX7_foresee_84 : decode cX7_foresee 84 = .ok (.if_icmp .ne 14, 3) := by decide +kernel
theorem dX7_foresee_87 : decode cX7_foresee 87 = .ok (.aload_n 0, 1) := by decide +kernel
theorem dX7_foresee_88 : decode cX7_foresee 88 = .ok (.getfield 43, 3) := by decide +kernel
theorem dX7_foresee_91 : decode cX7_foresee 91 = .ok (.iconst 4, 1) := by decide +kernel
theorem dX7_foresee_92 : decode cX7_foresee 92 = .ok (.invokevirtual 102, 3) := by decide +kernel
theorem dX7_foresee_95 : decode cX7_foresee 95 = .ok (.goto 10, 3) := by decide +kernel
theorem dX7_foresee_98 : decode cX7_foresee 98 = .ok (.aload_n 0, 1) := by decide +kernel
theorem dX7_foresee_99 : decode cX7_foresee 99 = .ok (.getfield 43, 3) := by decide +kernel
theorem dX7_foresee_102 : decode cX7_foresee 102 = .ok (.invokevirtual 129, 3) := by decide +kernel
theorem dX7_foresee_105 : decode cX7_foresee 105 = .ok (.ireturn, 1) := by decide +kernel
set_option maxRecDepth 20000 in
theorem ggX7_richest_X6_worth : GoodIn wsX7_richest wsX6_worth := goodIn_ca (goodIn_r _ [7, 8, 9, 25, 26, 27, 28, 29, 30, 31, 32, 10, 11, 12, 13, 14, 15, 16, 17, 18, 19, 20, 21, 22, 23, 24] (by decide +kernel) (by decide +kernel)) (goodIn_sub (fun _ h => List.mem_cons_of_mem _ (List.mem_append_right _ h)) (by decide +kernel))
set_option maxRecDepth 20000 in
theorem gX7_richest_X6_worth : GoodIn wsX7_richest (wsV RX7 108 RX6 yX6_worth wsX6_worth) := goodIn_app (goodIn_of _ (by decide +kernel)) ggX7_richest_X6_worth
theorem dX7_richest_0 : decode cX7_richest 0 = .ok (.aload_n 0, 1) := by decide +kernel
theorem dX7_richest_1 : decode cX7_richest 1 = .ok (.iconst 0, 1) := by decide +kernel
theorem dX7_richest_2 : decode cX7_richest 2 = .ok (.putfield 46, 3) := by decide +kernel
theorem dX7_richest_5 : decode cX7_richest 5 = .ok (.iconst (-1), 1) := by decide +kernel
theorem dX7_richest_6 : decode cX7_richest 6 = .ok (.istore_n 1, 1) := by decide +kernel
theorem dX7_richest_7 : decode cX7_richest 7 = .ok (.iconst 0, 1) := by decide +kernel
theorem dX7_richest_8 : decode cX7_richest 8 = .ok (.istore_n 2, 1) := by decide +kernel
theorem dX7_richest_9 : decode cX7_richest 9 = .ok (.iconst 0, 1) := by decide +kernel
theorem dX7_richest_10 : decode cX7_richest 10 = .ok (.istore_n 3, 1) := by decide +kernel
theorem dX7_richest_11 : decode cX7_richest 11 = .ok (.iload_n 3, 1) := by decide +kernel
theorem dX7_richest_12 : decode cX7_richest 12 = .ok (.iconst 5, 1) := by decide +kernel
theorem dX7_richest_13 : decode cX7_richest 13 = .ok (.if_icmp .ge 35, 3) := by decide +kernel
theorem dX7_richest_16 : decode cX7_richest 16 = .ok (.aload_n 0, 1) := by decide +kernel
theorem dX7_richest_17 : decode cX7_richest 17 = .ok (.getfield 39, 3) := by decide +kernel
theorem dX7_richest_20 : decode cX7_richest 20 = .ok (.iload_n 3, 1) := by decide +kernel
theorem dX7_richest_21 : decode cX7_richest 21 = .ok (.invokevirtual 108, 3) := by decide +kernel
theorem dX7_richest_24 : decode cX7_richest 24 = .ok (.iload_n 2, 1) := by decide +kernel
theorem dX7_richest_25 : decode cX7_richest 25 = .ok (.if_icmp .gt 6, 3) := by decide +kernel
theorem dX7_richest_28 : decode cX7_richest 28 = .ok (.goto 14, 3) := by decide +kernel
theorem dX7_richest_31 : decode cX7_richest 31 = .ok (.aload_n 0, 1) := by decide +kernel
theorem dX7_richest_32 : decode cX7_richest 32 = .ok (.getfield 39, 3) := by decide +kernel
theorem dX7_richest_35 : decode cX7_richest 35 = .ok (.iload_n 3, 1) := by decide +kernel
theorem dX7_richest_36 : decode cX7_richest 36 = .ok (.invokevirtual 108, 3) := by decide +kernel
theorem dX7_richest_39 : decode cX7_richest 39 = .ok (.istore_n 2, 1) := by decide +kernel
theorem dX7_richest_40 : decode cX7_richest 40 = .ok (.iload_n 3, 1) := by decide +kernel
theorem dX7_richest_41 : decode cX7_richest 41 = .ok (.istore_n 1, 1) := by decide +kernel
theorem dX7_richest_42 : decode cX7_richest 42 = .ok (.iinc 3 1, 3) := by decide +kernel
theorem dX7_richest_45 : decode cX7_richest 45 = .ok (.goto (-34), 3) := by decide +kernel
theorem dX7_richest_48 : decode cX7_richest 48 = .ok (.iload_n 1, 1) := by decide +kernel
theorem dX7_richest_49 : decode cX7_richest 49 = .ok (.ireturn, 1) := by decide +kernel
set_option maxRecDepth 20000 in
theorem ggX7_change_X7_isIn : GoodIn wsX7_change wsX7_isIn := goodIn_r _ [13] (by decide +kernel) (by decide +kernel)
set_option maxRecDepth 20000 in
theorem gX7_change_X7_isIn : GoodIn wsX7_change (va_wsS RX7 53 yX7_isIn wsX7_isIn) := goodIn_app (goodIn_of _ (by decide +kernel)) ggX7_change_X7_isIn
set_option maxRecDepth 20000 in
theorem ggX7_change_X7_no : GoodIn wsX7_change wsX7_no := goodIn_r _ [17, 1, 37, 38, 39, 40, 41, 42, 43, 44, 45, 46, 47, 48, 49, 50, 51] (by decide +kernel) (by decide +kernel)
set_option maxRecDepth 20000 in
theorem gX7_change_X7_no : GoodIn wsX7_change (wsV RX7 60 RX7 yX7_no wsX7_no) := goodIn_app (goodIn_of _ (by decide +kernel)) ggX7_change_X7_no
set_option maxRecDepth 20000 in
theorem ggX7_change_J7_fill_fda19 : GoodIn wsX7_change wsJ7_fill_fda19 := goodIn_r _ [21, 22, 23, 20, 24, 25, 26, 27, 28, 29, 30, 52, 53, 54, 55, 56, 57, 58, 59, 60, 61] (by decide +kernel) (by decide +kernel)
set_option maxRecDepth 20000 in
theorem gX7_change_J7_fill_fda19 : GoodIn wsX7_change (va_wsS RX7 147 yJ7_fill_fda19 wsJ7_fill_fda19) := goodIn_app (goodIn_of _ (by decide +kernel)) ggX7_change_J7_fill_fda19
set_option maxRecDepth 20000 in
theorem ggX7_change_X6_all : GoodIn wsX7_change wsX6_all := goodIn_ca (goodIn_r _ [35, 36, 62, 63, 64, 65, 66, 67, 68, 69] (by decide +kernel) (by decide +kernel)) (goodIn_sub (fun _ h => List.mem_cons_of_mem _ (List.mem_append_right _ h)) (by decide +kernel))
set_option maxRecDepth 20000 in
theorem gX7_change_X6_all : GoodIn wsX7_change (wsV RX7 114 RX6 yX6_all wsX6_all) := goodIn_app (goodIn_of _ (by decide +kernel)) ggX7_change_X6_all
theorem dX7_change_0 : decode cX7_change 0 = .ok (.aload_n 0, 1) := by decide +kernel
theorem dX7_change_1 : decode cX7_change 1 = .ok (.iconst 0, 1) := by decide +kernel
theorem dX7_change_2 : decode cX7_change 2 = .ok (.putfield 46, 3) := by decide +kernel
theorem dX7_change_5 : decode cX7_change 5 = .ok (.iload_n 1, 1) := by decide +kernel
theorem dX7_change_6 : decode cX7_change 6 = .ok (.iconst 1, 1) := by decide +kernel
theorem dX7_change_7 : decode cX7_change 7 = .ok (.sipush 300, 3) := by decide +kernel
theorem dX7_change_10 : decode cX7_change 10 = .ok (.invokestatic 53, 3) := by decide +kernel
theorem dX7_change_13 : decode cX7_change 13 = .ok (.ifCond .ne 9, 3) := by decide +kernel
theorem dX7_change_16 : decode cX7_change 16 = .ok (.aload_n 0, 1) := by decide +kernel
theorem dX7_change_17 : decode cX7_change 17 = .ok (.iconst 1, 1) := by decide +kernel
theorem dX7_change_18 : decode cX7_change 18 = .ok (.invokevirtual 60, 3) := by decide +kernel
theorem dX7_change_21 : decode cX7_change 21 = .ok (.ireturn, 1) := by decide +kernel
theorem dX7_change_22 : decode cX7_change 22 = .ok (.iload_n 1, 1) := by decide +kernel
theorem dX7_change_23 : decode cX7_change 23 = .ok (.iconst 1, 1) := by decide +kernel
theorem dX7_change_24 : decode cX7_change 24 = .ok (.iadd, 1) := by decide +kernel
theorem dX7_change_25 : decode cX7_change 25 = .ok (.newarray .int, 2) := by decide +kernel
theorem dX7_change_27 : decode cX7_change 27 = .ok (.astore_n 2, 1) := by decide +kernel
theorem dX7_change_28 : decode cX7_change 28 = .ok (.aload_n 2, 1) := by decide +kernel
theorem dX7_change_29 : decode cX7_change 29 = .ok (.iconst 1, 1) := by decide +kernel
theorem dX7_change_30 : decode cX7_change 30 = .ok (.iload_n 1, 1) := by decide +kernel
theorem dX7_change_31 : decode cX7_change 31 = .ok (.iconst 1, 1) := by decide +kernel
theorem dX7_change_32 : decode cX7_change 32 = .ok (.iadd, 1) := by decide +kernel
theorem dX7_change_33 : decode cX7_change 33 = .ok (.sipush 999, 3) := by decide +kernel
theorem dX7_change_36 : decode cX7_change 36 = .ok (.invokestatic 147, 3) := by decide +kernel
theorem dX7_change_39 : decode cX7_change 39 = .ok (.iconst 0, 1) := by decide +kernel
theorem dX7_change_40 : decode cX7_change 40 = .ok (.istore_n 3, 1) := by decide +kernel
theorem dX7_change_41 : decode cX7_change 41 = .ok (.iload_n 3, 1) := by decide +kernel
theorem dX7_change_42 : decode cX7_change 42 = .ok (.aload_n 0, 1) := by decide +kernel
theorem dX7_change_43 : decode cX7_change 43 = .ok (.getfield 50, 3) := by decide +kernel
theorem dX7_change_46 : decode cX7_change 46 = .ok (.if_icmp .ge 91, 3) := by decide +kernel
theorem dX7_change_49 : decode cX7_change 49 = .ok (.aload_n 0, 1) := by decide +kernel
theorem dX7_change_50 : decode cX7_change 50 = .ok (.getfield 39, 3) := by decide +kernel
theorem dX7_change_53 : decode cX7_change 53 = .ok (.iload_n 3, 1) := by decide +kernel
theorem dX7_change_54 : decode cX7_change 54 = .ok (.invokevirtual 114, 3) := by decide +kernel
theorem dX7_change_57 : decode cX7_change 57 = .ok (.istore 4, 2) := by decide +kernel
theorem dX7_change_59 : decode cX7_change 59 = .ok (.iload_n 1, 1) := by decide +kernel
theorem dX7_change_60 : decode cX7_change 60 = .ok (.istore 5, 2) := by decide +kernel
theorem dX7_change_62 : decode cX7_change 62 = .ok (.iload 5, 2) := by decide +kernel
theorem dX7_change_64 : decode cX7_change 64 = .ok (.ifCond .le 67, 3) := by decide +kernel
theorem dX7_change_67 : decode cX7_change 67 = .ok (.iconst 1, 1) := by decide +kernel
theorem dX7_change_68 : decode cX7_change 68 = .ok (.istore 6, 2) := by decide +kernel
theorem dX7_change_70 : decode cX7_change 70 = .ok (.iload 6, 2) := by decide +kernel
theorem dX7_change_72 : decode cX7_change 72 = .ok (.iload 4, 2) := by decide +kernel
theorem dX7_change_74 : decode cX7_change 74 = .ok (.if_icmp .gt 51, 3) := by decide +kernel
theorem dX7_change_77 : decode cX7_change 77 = .ok (.iload 6, 2) := by decide +kernel
theorem dX7_change_79 : decode cX7_change 79 = .ok (.aload_n 0, 1) := by decide +kernel
theorem dX7_change_80 : decode cX7_change 80 = .ok (.getfield 9, 3) := by decide +kernel
theorem dX7_change_83 : decode cX7_change 83 = .ok (.iload_n 3, 1) := by decide +kernel
theorem dX7_change_84 : decode cX7_change 84 = .ok (.iaload, 1) := by decide +kernel
theorem dX7_change_85 : decode cX7_change 85 = .ok (.imul, 1) := by decide +kernel
theorem dX7_change_86 : decode cX7_change 86 = .ok (.iload 5, 2) := by decide +kernel
theorem dX7_change_88 : decode cX7_change 88 = .ok (.if_icmp .gt 37, 3) := by decide +kernel
theorem dX7_change_91 : decode cX7_change 91 = .ok (.aload_n 2, 1) := by decide +kernel
theorem dX7_change_92 : decode cX7_change 92 = .ok (.iload 5, 2) := by decide +kernel
theorem dX7_change_94 : decode cX7_change 94 = .ok (.aload_n 2, 1) := by decide +kernel
theorem dX7_change_95 : decode cX7_change 95 = .ok (.iload 5, 2) := by decide +kernel
theorem dX7_change_97 : decode cX7_change 97 = .ok (.iaload, 1) := by decide +kernel
theorem dX7_change_98 : decode cX7_change 98 = .ok (.aload_n 2, 1) := by decide +kernel
theorem dX7_change_99 : decode cX7_change 99 = .ok (.iload 5, 2) := by decide +kernel
theorem dX7_change_101 : decode cX7_change 101 = .ok (.iload 6, 2) := by decide +kernel
theorem dX7_change_103 : decode cX7_change 103 = .ok (.aload_n 0, 1) := by decide +kernel
theorem dX7_change_104 : decode cX7_change 104 = .ok (.getfield 9, 3) := by decide +kernel
theorem dX7_change_107 : decode cX7_change 107 = .ok (.iload_n 3, 1) := by decide +kernel
theorem dX7_change_108 : decode cX7_change 108 = .ok (.iaload, 1) := by decide +kernel
theorem dX7_change_109 : decode cX7_change 109 = .ok (.imul, 1) := by decide +kernel
theorem dX7_change_110 : decode cX7_change 110 = .ok (.isub, 1) := by decide +kernel
theorem dX7_change_111 : decode cX7_change 111 = .ok (.iaload, 1) := by decide +kernel
theorem dX7_change_112 : decode cX7_change 112 = .ok (.iload 6, 2) := by decide +kernel
theorem dX7_change_114 : decode cX7_change 114 = .ok (.iadd, 1) := by decide +kernel
theorem dX7_change_115 : decode cX7_change 115 = .ok (.invokestatic 153, 3) := by decide +kernel
theorem dX7_change_118 : decode cX7_change 118 = .ok (.iastore, 1) := by decide +kernel
theorem dX7_change_119 : decode cX7_change 119 = .ok (.iinc 6 1, 3) := by decide +kernel
theorem dX7_change_122 : decode cX7_change 122 = .ok (.goto (-52), 3) := by decide +kernel
theorem dX7_change_125 : decode cX7_change 125 = .ok (.iinc 5 (-1), 3) := by decide +kernel
theorem dX7_change_128 : decode cX7_change 128 = .ok (.goto (-66), 3) := by decide +kernel
theorem dX7_change_131 : decode cX7_change 131 = .ok (.iinc 3 1, 3) := by decide +kernel
theorem dX7_change_134 : decode cX7_change 134 = .ok (.goto (-93), 3) := by decide +kernel
theorem dX7_change_137 : decode cX7_change 137 = .ok (.aload_n 2, 1) := by decide +kernel
theorem dX7_change_138 : decode cX7_change 138 = .ok (.iload_n 1, 1) := by decide +kernel
theorem dX7_change_139 : decode cX7_change 139 = .ok (.iaload, 1) := by decide +kernel
theorem dX7_change_140 : decode cX7_change 140 = .ok (.sipush 999, 3) := by decide +kernel
theorem dX7_change_143 : decode cX7_change 143 = .ok (.if_icmp .ge 9, 3) := by decide +kernel
theorem dX7_change_146 : decode cX7_change 146 = .ok (.aload_n 2, 1) := by decide +kernel
theorem dX7_change_147 : decode cX7_change 147 = .ok (.iload_n 1, 1) := by decide +kernel
theorem dX7_change_148 : decode cX7_change 148 = .ok (.iaload, 1) := by decide +kernel
theorem dX7_change_149 : decode cX7_change 149 = .ok (.goto 4, 3) := by decide +kernel
theorem dX7_change_152 : decode cX7_change 152 = .ok (.iconst (-1), 1) := by decide +kernel
theorem dX7_change_153 : decode cX7_change 153 = .ok (.ireturn, 1) := by decide +kernel
theorem dX7_mean_0 : decode cX7_mean 0 = .ok (.aload_n 0, 1) := by decide +kernel
theorem dX7_mean_1 : decode cX7_mean 1 = .ok (.iconst 0, 1) := by decide +kernel
theorem dX7_mean_2 : decode cX7_mean 2 = .ok (.putfield 46, 3) := by decide +kernel
theorem dX7_mean_5 : decode cX7_mean 5 = .ok (.iconst 0, 1) := by decide +kernel
theorem dX7_mean_6 : decode cX7_mean 6 = .ok (.istore_n 1, 1) := by decide +kernel
theorem dX7_mean_7 : decode cX7_mean 7 = .ok (.iconst 0, 1) := by decide +kernel
theorem dX7_mean_8 : decode cX7_mean 8 = .ok (.istore_n 2, 1) := by decide +kernel
theorem dX7_mean_9 : decode cX7_mean 9 = .ok (.iconst 0, 1) := by decide +kernel
theorem dX7_mean_10 : decode cX7_mean 10 = .ok (.istore_n 3, 1) := by decide +kernel
theorem dX7_mean_11 : decode cX7_mean 11 = .ok (.iload_n 3, 1) := by decide +kernel
theorem dX7_mean_12 : decode cX7_mean 12 = .ok (.aload_n 0, 1) := by decide +kernel
theorem dX7_mean_13 : decode cX7_mean 13 = .ok (.getfield 57, 3) := by decide +kernel
theorem dX7_mean_16 : decode cX7_mean 16 = .ok (.if_icmp .ge 47, 3) := by decide +kernel
theorem dX7_mean_19 : decode cX7_mean 19 = .ok (.aload_n 0, 1) := by decide +kernel
theorem dX7_mean_20 : decode cX7_mean 20 = .ok (.getfield 39, 3) := by decide +kernel
theorem dX7_mean_23 : decode cX7_mean 23 = .ok (.getfield 81, 3) := by decide +kernel
theorem dX7_mean_26 : decode cX7_mean 26 = .ok (.iload_n 3, 1) := by decide +kernel
theorem dX7_mean_27 : decode cX7_mean 27 = .ok (.iaload, 1) := by decide +kernel
theorem dX7_mean_28 : decode cX7_mean 28 = .ok (.iconst 1, 1) := by decide +kernel
theorem dX7_mean_29 : decode cX7_mean 29 = .ok (.if_icmp .eq 6, 3) := by decide +kernel
theorem dX7_mean_32 : decode cX7_mean 32 = .ok (.goto 25, 3) := by decide +kernel
theorem dX7_mean_35 : decode cX7_mean 35 = .ok (.iload_n 1, 1) := by decide +kernel
theorem dX7_mean_36 : decode cX7_mean 36 = .ok (.aload_n 0, 1) := by decide +kernel
theorem dX7_mean_37 : decode cX7_mean 37 = .ok (.getfield 39, 3) := by decide +kernel
theorem dX7_mean_40 : decode cX7_mean 40 = .ok (.getfield 71, 3) := by decide +kernel
theorem dX7_mean_43 : decode cX7_mean 43 = .ok (.iload_n 3, 1) := by decide +kernel
theorem dX7_mean_44 : decode cX7_mean 44 = .ok (.iaload, 1) := by decide +kernel
theorem dX7_mean_45 : decode cX7_mean 45 = .ok (.aload_n 0, 1) := by decide +kernel
theorem dX7_mean_46 : decode cX7_mean 46 = .ok (.getfield 31, 3) := by decide +kernel
theorem dX7_mean_49 : decode cX7_mean 49 = .ok (.iload_n 3, 1) := by decide +kernel
theorem dX7_mean_50 : decode cX7_mean 50 = .ok (.iaload, 1) := by decide +kernel
theorem dX7_mean_51 : decode cX7_mean 51 = .ok (.isub, 1) := by decide +kernel
theorem dX7_mean_52 : decode cX7_mean 52 = .ok (.iadd, 1) := by decide +kernel
theorem dX7_mean_53 : decode cX7_mean 53 = .ok (.istore_n 1, 1) := by decide +kernel
theorem dX7_mean_54 : decode cX7_mean 54 = .ok (.iinc 2 1, 3) := by decide +kernel
theorem dX7_mean_57 : decode cX7_mean 57 = .ok (.iinc 3 1, 3) := by decide +kernel
theorem dX7_mean_60 : decode cX7_mean 60 = .ok (.goto (-49), 3) := by decide +kernel
theorem dX7_mean_63 : decode cX7_mean 63 = .ok (.iload_n 2, 1) := by decide +kernel
theorem dX7_mean_64 : decode cX7_mean 64 = .ok (.ifCond .ne 7, 3) := by decide +kernel
theorem dX7_mean_67 : decode cX7_mean 67 = .ok (.dconst 0, 1) := by decide +kernel
theorem dX7_mean_68 : decode cX7_mean 68 = .ok (.goto 8, 3) := by decide +kernel
theorem dX7_mean_71 : decode cX7_mean 71 = .ok (.iload_n 1, 1) := by decide +kernel
theorem dX7_mean_72 : decode cX7_mean 72 = .ok (.i2d, 1) := by decide +kernel
theorem dX7_mean_73 : decode cX7_mean 73 = .ok (.iload_n 2, 1) := by decide +kernel
theorem dX7_mean_74 : decode cX7_mean 74 = .ok (.i2d, 1) := by decide +kernel
theorem dX7_mean_75 : decode cX7_mean 75 = .ok (.ddiv, 1) := by decide +kernel
theorem dX7_mean_76 : decode cX7_mean 76 = .ok (.dreturn, 1) := by decide +kernel
set_option maxRecDepth 20000 in
theorem ggX7_digest_X7_counted : GoodIn wsX7_digest wsX7_counted := goodIn_ca (goodIn_r _ [12, 13, 7, 6, 5, 14, 15, 16, 17, 18, 19, 20, 21, 22, 23, 24, 25, 26, 27, 28, 29, 30, 54, 55, 56, 57, 58, 59, 60, 61, 62, 63, 64, 65, 66, 67, 68, 69, 70, 71, 72, 73, 74, 75, 76] (by decide +kernel) (by decide +kernel)) (goodIn_sub (fun _ h => List.mem_cons_of_mem _ (List.mem_append_right _ h)) (by decide +kernel))
set_option maxRecDepth 20000 in
theorem gX7_digest_X7_counted : GoodIn wsX7_digest (wsV RX7 133 RX7 yX7_counted wsX7_counted) := goodIn_app (goodIn_of _ (by decide +kernel)) ggX7_digest_X7_counted
set_option maxRecDepth 20000 in
theorem ggX7_digest_X7_landTold : GoodIn wsX7_digest wsX7_landTold := goodIn_ca (goodIn_r _ [34, 13, 35, 36, 6, 37, 38, 39, 40, 19, 41, 21, 54, 55, 56, 57, 58, 59, 60, 61, 62, 63, 64, 65, 66, 67, 68, 69, 70, 71, 72, 73, 74, 75, 76] (by decide +kernel) (by decide +kernel)) (goodIn_sub (fun _ h => List.mem_cons_of_mem _ (List.mem_append_right _ h)) (by decide +kernel))
set_option maxRecDepth 20000 in
theorem gX7_digest_X7_landTold : GoodIn wsX7_digest (wsV RX7 120 RX7 yX7_landTold wsX7_landTold) := goodIn_app (goodIn_of _ (by decide +kernel)) ggX7_digest_X7_landTold
set_option maxRecDepth 20000 in
theorem ggX7_digest_X7_missed : GoodIn wsX7_digest wsX7_missed := goodIn_ca (goodIn_r _ [45, 6, 37, 46, 38, 39, 40, 19, 41, 21, 54, 55, 56, 57, 58, 59, 60, 61, 62, 63, 64, 65, 66, 67, 68, 69, 70, 71, 72, 73, 74, 75, 76] (by decide +kernel) (by decide +kernel)) (goodIn_sub (fun _ h => List.mem_cons_of_mem _ (List.mem_append_right _ h)) (by decide +kernel))
set_option maxRecDepth 20000 in
theorem gX7_digest_X7_missed : GoodIn wsX7_digest (wsV RX7 117 RX7 yX7_missed wsX7_missed) := goodIn_app (goodIn_of _ (by decide +kernel)) ggX7_digest_X7_missed
set_option maxRecDepth 20000 in
theorem ggX7_digest_X7_wishTold : GoodIn wsX7_digest wsX7_wishTold := goodIn_ca (goodIn_r _ [50, 13, 51, 52, 53, 6, 54, 55, 56, 57, 58, 59, 60, 61, 62, 63, 64, 65, 66, 67, 68, 69, 70, 71, 72, 73, 74, 75, 76] (by decide +kernel) (by decide +kernel)) (goodIn_sub (fun _ h => List.mem_cons_of_mem _ (List.mem_append_right _ h)) (by decide +kernel))
set_option maxRecDepth 20000 in
theorem gX7_digest_X7_wishTold : GoodIn wsX7_digest (wsV RX7 123 RX7 yX7_wishTold wsX7_wishTold) := goodIn_app (goodIn_of _ (by decide +kernel)) ggX7_digest_X7_wishTold
theorem dX7_digest_0 : decode cX7_digest 0 = .ok (.aload_n 0, 1) := by decide +kernel
theorem dX7_digest_1 : decode cX7_digest 1 = .ok (.iconst 0, 1) := by decide +kernel
theorem dX7_digest_2 : decode cX7_digest 2 = .ok (.putfield 46, 3) := by decide +kernel
theorem dX7_digest_5 : decode cX7_digest 5 = .ok (.ldc2_w 156, 3) := by decide +kernel
theorem dX7_digest_8 : decode cX7_digest 8 = .ok (.lstore_n 1, 1) := by decide +kernel
theorem dX7_digest_9 : decode cX7_digest 9 = .ok (.iconst 0, 1) := by decide +kernel
theorem dX7_digest_10 : decode cX7_digest 10 = .ok (.istore_n 3, 1) := by decide +kernel
theorem dX7_digest_11 : decode cX7_digest 11 = .ok (.iload_n 3, 1) := by decide +kernel
theorem dX7_digest_12 : decode cX7_digest 12 = .ok (.bipush 10, 2) := by decide +kernel
theorem dX7_digest_14 : decode cX7_digest 14 = .ok (.if_icmp .gt 22, 3) := by decide +kernel
theorem dX7_digest_17 : decode cX7_digest 17 = .ok (.lload_n 1, 1) := by decide +kernel
theorem dX7_digest_18 : decode cX7_digest 18 = .ok (.ldc2_w 158, 3) := by decide +kernel
theorem dX7_digest_21 : decode cX7_digest 21 = .ok (.lmul, 1) := by decide +kernel
theorem dX7_digest_22 : decode cX7_digest 22 = .ok (.aload_n 0, 1) := by decide +kernel
theorem dX7_digest_23 : decode cX7_digest 23 = .ok (.iload_n 3, 1) := by decide +kernel
theorem dX7_digest_24 : decode cX7_digest 24 = .ok (.invokevirtual 133, 3) := by decide +kernel
theorem dX7_digest_27 : decode cX7_digest 27 = .ok (.i2l, 1) := by decide +kernel
theorem dX7_digest_28 : decode cX7_digest 28 = .ok (.ladd, 1) := by decide +kernel
theorem dX7_digest_29 : decode cX7_digest 29 = .ok (.lstore_n 1, 1) := by decide +kernel
theorem dX7_digest_30 : decode cX7_digest 30 = .ok (.iinc 3 1, 3) := by decide +kernel
theorem dX7_digest_33 : decode cX7_digest 33 = .ok (.goto (-22), 3) := by decide +kernel
theorem dX7_digest_36 : decode cX7_digest 36 = .ok (.iconst 0, 1) := by decide +kernel
theorem dX7_digest_37 : decode cX7_digest 37 = .ok (.istore_n 3, 1) := by decide +kernel
theorem dX7_digest_38 : decode cX7_digest 38 = .ok (.iload_n 3, 1) := by decide +kernel
theorem dX7_digest_39 : decode cX7_digest 39 = .ok (.bipush 7, 2) := by decide +kernel
theorem dX7_digest_41 : decode cX7_digest 41 = .ok (.if_icmp .ge 23, 3) := by decide +kernel
theorem dX7_digest_44 : decode cX7_digest 44 = .ok (.lload_n 1, 1) := by decide +kernel
theorem dX7_digest_45 : decode cX7_digest 45 = .ok (.ldc2_w 158, 3) := by decide +kernel
theorem dX7_digest_48 : decode cX7_digest 48 = .ok (.lmul, 1) := by decide +kernel
theorem dX7_digest_49 : decode cX7_digest 49 = .ok (.aload_n 0, 1) := by decide +kernel
theorem dX7_digest_50 : decode cX7_digest 50 = .ok (.getfield 16, 3) := by decide +kernel
theorem dX7_digest_53 : decode cX7_digest 53 = .ok (.iload_n 3, 1) := by decide +kernel
theorem dX7_digest_54 : decode cX7_digest 54 = .ok (.iaload, 1) := by decide +kernel
theorem dX7_digest_55 : decode cX7_digest 55 = .ok (.i2l, 1) := by decide +kernel
theorem dX7_digest_56 : decode cX7_digest 56 = .ok (.ladd, 1) := by decide +kernel
theorem dX7_digest_57 : decode cX7_digest 57 = .ok (.lstore_n 1, 1) := by decide +kernel
theorem dX7_digest_58 : decode cX7_digest 58 = .ok (.iinc 3 1, 3) := by decide +kernel
theorem dX7_digest_61 : decode cX7_digest 61 = .ok (.goto (-23), 3) := by decide +kernel
theorem dX7_digest_64 : decode cX7_digest 64 = .ok (.iconst 0, 1) := by decide +kernel
theorem dX7_digest_65 : decode cX7_digest 65 = .ok (.istore_n 3, 1) := by decide +kernel
theorem dX7_digest_66 : decode cX7_digest 66 = .ok (.iload_n 3, 1) := by decide +kernel
theorem dX7_digest_67 : decode cX7_digest 67 = .ok (.aload_n 0, 1) := by decide +kernel
theorem dX7_digest_68 : decode cX7_digest 68 = .ok (.getfield 50, 3) := by decide +kernel
theorem dX7_digest_71 : decode cX7_digest 71 = .ok (.if_icmp .ge 52, 3) := by decide +kernel
theorem dX7_digest_74 : decode cX7_digest 74 = .ok (.iconst 0, 1) := by decide +kernel
theorem dX7_digest_75 : decode cX7_digest 75 = .ok (.istore 4, 2) := by decide +kernel
theorem dX7_digest_77 : decode cX7_digest 77 = .ok (.iload 4, 2) := by decide +kernel
theorem dX7_digest_79 : decode cX7_digest 79 = .ok (.iconst 4, 1) := by decide +kernel
theorem dX7_digest_80 : decode cX7_digest 80 = .ok (.if_icmp .gt 24, 3) := by decide +kernel
theorem dX7_digest_83 : decode cX7_digest 83 = .ok (.lload_n 1, 1) := by decide +kernel
theorem dX7_digest_84 : decode cX7_digest 84 = .ok (.ldc2_w 158, 3) := by decide +kernel
theorem dX7_digest_87 : decode cX7_digest 87 = .ok (.lmul, 1) := by decide +kernel
theorem dX7_digest_88 : decode cX7_digest 88 = .ok (.aload_n 0, 1) := by decide +kernel
theorem dX7_digest_89 : decode cX7_digest 89 = .ok (.iload_n 3, 1) := by decide +kernel
theorem dX7_digest_90 : decode cX7_digest 90 = .ok (.iload 4, 2) := by decide +kernel
theorem dX7_digest_92 : decode cX7_digest 92 = .ok (.invokevirtual 120, 3) := by decide +kernel
theorem dX7_digest_95 : decode cX7_digest 95 = .ok (.i2l, 1) := by decide +kernel
theorem dX7_digest_96 : decode cX7_digest 96 = .ok (.ladd, 1) := by decide +kernel
theorem dX7_digest_97 : decode cX7_digest 97 = .ok (.lstore_n 1, 1) := by decide +kernel
theorem dX7_digest_98 : decode cX7_digest 98 = .ok (.iinc 4 1, 3) := by decide +kernel
theorem dX7_digest_101 : decode cX7_digest 101 = .ok (.goto (-24), 3) := by decide +kernel
theorem dX7_digest_104 : decode cX7_digest 104 = .ok (.lload_n 1, 1) := by decide +kernel
theorem dX7_digest_105 : decode cX7_digest 105 = .ok (.ldc2_w 158, 3) := by decide +kernel
theorem dX7_digest_108 : decode cX7_digest 108 = .ok (.lmul, 1) := by decide +kernel
theorem dX7_digest_109 : decode cX7_digest 109 = .ok (.aload_n 0, 1) := by decide +kernel
theorem dX7_digest_110 : decode cX7_digest 110 = .ok (.iload_n 3, 1) := by decide +kernel
theorem dX7_digest_111 : decode cX7_digest 111 = .ok (.invokevirtual 117, 3) := by decide +kernel
theorem dX7_digest_114 : decode cX7_digest 114 = .ok (.i2l, 1) := by decide +kernel
theorem dX7_digest_115 : decode cX7_digest 115 = .ok (.ladd, 1) := by decide +kernel
theorem dX7_digest_116 : decode cX7_digest 116 = .ok (.lstore_n 1, 1) := by decide +kernel
theorem dX7_digest_117 : decode cX7_digest 117 = .ok (.iinc 3 1, 3) := by decide +kernel
theorem dX7_digest_120 : decode cX7_digest 120 = .ok (.goto (-54), 3) := by decide +kernel
theorem dX7_digest_123 : decode cX7_digest 123 = .ok (.iconst 0, 1) := by decide +kernel
theorem dX7_digest_124 : decode cX7_digest 124 = .ok (.istore_n 3, 1) := by decide +kernel
theorem dX7_digest_125 : decode cX7_digest 125 = .ok (.iload_n 3, 1) := by decide +kernel
theorem dX7_digest_126 : decode cX7_digest 126 = .ok (.iconst 5, 1) := by decide +kernel
theorem dX7_digest_127 : decode cX7_digest 127 = .ok (.if_icmp .ge 50, 3) := by decide +kernel
theorem dX7_digest_130 : decode cX7_digest 130 = .ok (.iconst 0, 1) := by decide +kernel
theorem dX7_digest_131 : decode cX7_digest 131 = .ok (.istore 4, 2) := by decide +kernel
theorem dX7_digest_133 : decode cX7_digest 133 = .ok (.iload 4, 2) := by decide +kernel
theorem dX7_digest_135 : decode cX7_digest 135 = .ok (.aload_n 0, 1) := by decide +kernel
theorem dX7_digest_136 : decode cX7_digest 136 = .ok (.getfield 50, 3) := by decide +kernel
theorem dX7_digest_139 : decode cX7_digest 139 = .ok (.if_icmp .ge 32, 3) := by decide +kernel
theorem dX7_digest_142 : decode cX7_digest 142 = .ok (.lload_n 1, 1) := by decide +kernel
theorem dX7_digest_143 : decode cX7_digest 143 = .ok (.ldc2_w 158, 3) := by decide +kernel
theorem dX7_digest_146 : decode cX7_digest 146 = .ok (.lmul, 1) := by decide +kernel
theorem dX7_digest_147 : decode cX7_digest 147 = .ok (.aload_n 0, 1) := by decide +kernel
theorem dX7_digest_148 : decode cX7_digest 148 = .ok (.getfield 39, 3) := by decide +kernel
theorem dX7_digest_151 : decode cX7_digest 151 = .ok (.getfield 93, 3) := by decide +kernel
theorem dX7_digest_154 : decode cX7_digest 154 = .ok (.bipush 6, 2) := by decide +kernel
theorem dX7_digest_156 : decode cX7_digest 156 = .ok (.iload_n 3, 1) := by decide +kernel
theorem dX7_digest_157 : decode cX7_digest 157 = .ok (.imul, 1) := by decide +kernel
theorem dX7_digest_158 : decode cX7_digest 158 = .ok (.iload 4, 2) := by decide +kernel
theorem dX7_digest_160 : decode cX7_digest 160 = .ok (.iadd, 1) := by decide +kernel
theorem dX7_digest_161 : decode cX7_digest 161 = .ok (.iaload, 1) := by decide +kernel
theorem dX7_digest_162 : decode cX7_digest 162 = .ok (.i2l, 1) := by decide +kernel
theorem dX7_digest_163 : decode cX7_digest 163 = .ok (.ladd, 1) := by decide +kernel
theorem dX7_digest_164 : decode cX7_digest 164 = .ok (.lstore_n 1, 1) := by decide +kernel
theorem dX7_digest_165 : decode cX7_digest 165 = .ok (.iinc 4 1, 3) := by decide +kernel
theorem dX7_digest_168 : decode cX7_digest 168 = .ok (.goto (-35), 3) := by decide +kernel
theorem dX7_digest_171 : decode cX7_digest 171 = .ok (.iinc 3 1, 3) := by decide +kernel
theorem dX7_digest_174 : decode cX7_digest 174 = .ok (.goto (-49), 3) := by decide +kernel
theorem dX7_digest_177 : decode cX7_digest 177 = .ok (.iconst 0, 1) := by decide +kernel
theorem dX7_digest_178 : decode cX7_digest 178 = .ok (.istore_n 3, 1) := by decide +kernel
theorem dX7_digest_179 : decode cX7_digest 179 = .ok (.iload_n 3, 1) := by decide +kernel
theorem dX7_digest_180 : decode cX7_digest 180 = .ok (.aload_n 0, 1) := by decide +kernel
theorem dX7_digest_181 : decode cX7_digest 181 = .ok (.getfield 57, 3) := by decide +kernel
theorem dX7_digest_184 : decode cX7_digest 184 = .ok (.if_icmp .ge 39, 3) := by decide +kernel
theorem dX7_digest_187 : decode cX7_digest 187 = .ok (.iconst 0, 1) := by decide +kernel
theorem dX7_digest_188 : decode cX7_digest 188 = .ok (.istore 4, 2) := by decide +kernel
theorem dX7_digest_190 : decode cX7_digest 190 = .ok (.iload 4, 2) := by decide +kernel
theorem dX7_digest_192 : decode cX7_digest 192 = .ok (.iconst 4, 1) := by decide +kernel
theorem dX7_digest_193 : decode cX7_digest 193 = .ok (.if_icmp .gt 24, 3) := by decide +kernel
theorem dX7_digest_196 : decode cX7_digest 196 = .ok (.lload_n 1, 1) := by decide +kernel
theorem dX7_digest_197 : decode cX7_digest 197 = .ok (.ldc2_w 158, 3) := by decide +kernel
theorem dX7_digest_200 : decode cX7_digest 200 = .ok (.lmul, 1) := by decide +kernel
theorem dX7_digest_201 : decode cX7_digest 201 = .ok (.aload_n 0, 1) := by decide +kernel
theorem dX7_digest_202 : decode cX7_digest 202 = .ok (.iload_n 3, 1) := by decide +kernel
theorem dX7_digest_203 : decode cX7_digest 203 = .ok (.iload 4, 2) := by decide +kernel
theorem dX7_digest_205 : decode cX7_digest 205 = .ok (.invokevirtual 123, 3) := by decide +kernel
theorem dX7_digest_208 : decode cX7_digest 208 = .ok (.i2l, 1) := by decide +kernel
theorem dX7_digest_209 : decode cX7_digest 209 = .ok (.ladd, 1) := by decide +kernel
theorem dX7_digest_210 : decode cX7_digest 210 = .ok (.lstore_n 1, 1) := by decide +kernel
theorem dX7_digest_211 : decode cX7_digest 211 = .ok (.iinc 4 1, 3) := by decide +kernel
theorem dX7_digest_214 : decode cX7_digest 214 = .ok (.goto (-24), 3) := by decide +kernel
theorem dX7_digest_217 : decode cX7_digest 217 = .ok (.iinc 3 1, 3) := by decide +kernel
theorem dX7_digest_220 : decode cX7_digest 220 = .ok (.goto (-41), 3) := by decide +kernel
theorem dX7_digest_223 : decode cX7_digest 223 = .ok (.lload_n 1, 1) := by decide +kernel
theorem dX7_digest_224 : decode cX7_digest 224 = .ok (.lreturn, 1) := by decide +kernel
theorem dJ7_rangeCheck_23922_0 : decode cJ7_rangeCheck_23922 0 = .ok (.iload_n 1, 1) := by decide +kernel
theorem dJ7_rangeCheck_23922_1 : decode cJ7_rangeCheck_23922 1 = .ok (.iload_n 2, 1) := by decide +kernel
theorem dJ7_rangeCheck_23922_2 : decode cJ7_rangeCheck_23922 2 = .ok (.if_icmp .le 44, 3) := by decide +kernel
theorem dJ7_rangeCheck_23922_5 : decode cJ7_rangeCheck_23922 5 = .ok (.new 43, 3) := by decide +kernel
theorem dJ7_rangeCheck_23922_8 : decode cJ7_rangeCheck_23922 8 = .ok (.dup, 1) := by decide +kernel
theorem dJ7_rangeCheck_23922_9 : decode cJ7_rangeCheck_23922 9 = .ok (.new 45, 3) := by decide +kernel
theorem dJ7_rangeCheck_23922_12 : decode cJ7_rangeCheck_23922 12 = .ok (.dup, 1) := by decide +kernel
theorem dJ7_rangeCheck_23922_13 : decode cJ7_rangeCheck_23922 13 = .ok (.invokespecial 47, 3) := by decide +kernel
theorem dJ7_rangeCheck_23922_16 : decode cJ7_rangeCheck_23922 16 = .ok (.ldc 48, 2) := by decide +kernel
theorem dJ7_rangeCheck_23922_18 : decode cJ7_rangeCheck_23922 18 = .ok (.invokevirtual 50, 3) := by decide +kernel
theorem dJ7_rangeCheck_23922_21 : decode cJ7_rangeCheck_23922 21 = .ok (.iload_n 1, 1) := by decide +kernel
theorem dJ7_rangeCheck_23922_22 : decode cJ7_rangeCheck_23922 22 = .ok (.invokevirtual 54, 3) := by decide +kernel
theorem dJ7_rangeCheck_23922_25 : decode cJ7_rangeCheck_23922 25 = .ok (.ldc 57, 2) := by decide +kernel
theorem dJ7_rangeCheck_23922_27 : decode cJ7_rangeCheck_23922 27 = .ok (.invokevirtual 50, 3) := by decide +kernel
theorem dJ7_rangeCheck_23922_30 : decode cJ7_rangeCheck_23922 30 = .ok (.iload_n 2, 1) := by decide +kernel
theorem dJ7_rangeCheck_23922_31 : decode cJ7_rangeCheck_23922 31 = .ok (.invokevirtual 54, 3) := by decide +kernel
theorem dJ7_rangeCheck_23922_34 : decode cJ7_rangeCheck_23922 34 = .ok (.ldc 59, 2) := by decide +kernel
theorem dJ7_rangeCheck_23922_36 : decode cJ7_rangeCheck_23922 36 = .ok (.invokevirtual 50, 3) := by decide +kernel
theorem dJ7_rangeCheck_23922_39 : decode cJ7_rangeCheck_23922 39 = .ok (.invokevirtual 61, 3) := by decide +kernel
theorem dJ7_rangeCheck_23922_42 : decode cJ7_rangeCheck_23922 42 = .ok (.invokespecial 65, 3) := by decide +kernel
theorem dJ7_rangeCheck_23922_45 : decode cJ7_rangeCheck_23922 45 = .ok (.athrow, 1) := by decide +kernel
theorem dJ7_rangeCheck_23922_46 : decode cJ7_rangeCheck_23922 46 = .ok (.iload_n 1, 1) := by decide +kernel
theorem dJ7_rangeCheck_23922_47 : decode cJ7_rangeCheck_23922 47 = .ok (.ifCond .ge 12, 3) := by decide +kernel
theorem dJ7_rangeCheck_23922_50 : decode cJ7_rangeCheck_23922 50 = .ok (.new 68, 3) := by decide +kernel
theorem dJ7_rangeCheck_23922_53 : decode cJ7_rangeCheck_23922 53 = .ok (.dup, 1) := by decide +kernel
theorem dJ7_rangeCheck_23922_54 : decode cJ7_rangeCheck_23922 54 = .ok (.iload_n 1, 1) := by decide +kernel
theorem dJ7_rangeCheck_23922_55 : decode cJ7_rangeCheck_23922 55 = .ok (.invokespecial 70, 3) := by decide +kernel
theorem dJ7_rangeCheck_23922_58 : decode cJ7_rangeCheck_23922 58 = .ok (.athrow, 1) := by decide +kernel
theorem dJ7_rangeCheck_23922_59 : decode cJ7_rangeCheck_23922 59 = .ok (.iload_n 2, 1) := by decide +kernel
theorem dJ7_rangeCheck_23922_60 : decode cJ7_rangeCheck_23922 60 = .ok (.iload_n 0, 1) := by decide +kernel
theorem dJ7_rangeCheck_23922_61 : decode cJ7_rangeCheck_23922 61 = .ok (.if_icmp .le 12, 3) := by decide +kernel
theorem dJ7_rangeCheck_23922_64 : decode cJ7_rangeCheck_23922 64 = .ok (.new 68, 3) := by decide +kernel
theorem dJ7_rangeCheck_23922_67 : decode cJ7_rangeCheck_23922 67 = .ok (.dup, 1) := by decide +kernel
theorem dJ7_rangeCheck_23922_68 : decode cJ7_rangeCheck_23922 68 = .ok (.iload_n 2, 1) := by decide +kernel
theorem dJ7_rangeCheck_23922_69 : decode cJ7_rangeCheck_23922 69 = .ok (.invokespecial 70, 3) := by decide +kernel
theorem dJ7_rangeCheck_23922_72 : decode cJ7_rangeCheck_23922 72 = .ok (.athrow, 1) := by decide +kernel
theorem dJ7_rangeCheck_23922_73 : decode cJ7_rangeCheck_23922 73 = .ok (.return_, 1) := by decide +kernel
set_option maxRecDepth 20000 in
theorem ggJ7_fill_fda19_J7_rangeCheck_23922 : GoodIn wsJ7_fill_fda19 wsJ7_rangeCheck_23922 := goodIn_r _ [4, 5, 6, 7, 8, 9, 10, 11, 12, 13, 14, 15, 16, 17, 18, 19, 20] (by decide +kernel) (by decide +kernel)
set_option maxRecDepth 20000 in
theorem gJ7_fill_fda19_J7_rangeCheck_23922 : GoodIn wsJ7_fill_fda19 (va_wsS RJ7 13 yJ7_rangeCheck_23922 wsJ7_rangeCheck_23922) := goodIn_app (goodIn_of _ (by decide +kernel)) ggJ7_fill_fda19_J7_rangeCheck_23922
theorem dJ7_fill_fda19_0 : decode cJ7_fill_fda19 0 = .ok (.aload_n 0, 1) := by decide +kernel
theorem dJ7_fill_fda19_1 : decode cJ7_fill_fda19 1 = .ok (.arraylength, 1) := by decide +kernel
theorem dJ7_fill_fda19_2 : decode cJ7_fill_fda19 2 = .ok (.iload_n 1, 1) := by decide +kernel
theorem dJ7_fill_fda19_3 : decode cJ7_fill_fda19 3 = .ok (.iload_n 2, 1) := by decide +kernel
theorem dJ7_fill_fda19_4 : decode cJ7_fill_fda19 4 = .ok (.invokestatic 13, 3) := by decide +kernel
theorem dJ7_fill_fda19_7 : decode cJ7_fill_fda19 7 = .ok (.iload_n 1, 1) := by decide +kernel
theorem dJ7_fill_fda19_8 : decode cJ7_fill_fda19 8 = .ok (.istore 4, 2) := by decide +kernel
theorem dJ7_fill_fda19_10 : decode cJ7_fill_fda19 10 = .ok (.iload 4, 2) := by decide +kernel
theorem dJ7_fill_fda19_12 : decode cJ7_fill_fda19 12 = .ok (.iload_n 2, 1) := by decide +kernel
theorem dJ7_fill_fda19_13 : decode cJ7_fill_fda19 13 = .ok (.if_icmp .ge 14, 3) := by decide +kernel
theorem dJ7_fill_fda19_16 : decode cJ7_fill_fda19 16 = .ok (.aload_n 0, 1) := by decide +kernel
theorem dJ7_fill_fda19_17 : decode cJ7_fill_fda19 17 = .ok (.iload 4, 2) := by decide +kernel
theorem dJ7_fill_fda19_19 : decode cJ7_fill_fda19 19 = .ok (.iload_n 3, 1) := by decide +kernel
theorem dJ7_fill_fda19_20 : decode cJ7_fill_fda19 20 = .ok (.iastore, 1) := by decide +kernel
theorem dJ7_fill_fda19_21 : decode cJ7_fill_fda19 21 = .ok (.iinc 4 1, 3) := by decide +kernel
theorem dJ7_fill_fda19_24 : decode cJ7_fill_fda19 24 = .ok (.goto (-14), 3) := by decide +kernel
theorem dJ7_fill_fda19_27 : decode cJ7_fill_fda19 27 = .ok (.return_, 1) := by decide +kernel
end
section
/-! what every walk here stands on: the nest words, a contract as an equation (answer and world behind), the start, the end, the call -/
def nestF : List (String × Nat × String × String × String × String) := [("WishWellModel", 68, "WishWellModel$State", "today", "I", "WishWellModel"), ("WishWellModel", 84, "WishWellModel$State", "favour", "I", "WishWellModel"), ("WishWellModel", 126, "WishWellModel$State", "turn", "I", "WishWellModel"), ("WishWellModel", 93, "WishWellModel$State", "pile", "[I", "WishWellModel"), ("WishWellModel", 111, "WishWellModel$State", "came", "[I", "WishWellModel"), ("WishWellModel", 81, "WishWellModel$State", "how", "[I", "WishWellModel"), ("WishWellModel", 71, "WishWellModel$State", "when", "[I", "WishWellModel"), ("WishWellModel$State", 69, "WishWellModel", "lands", "I", "WishWellModel"), ("WishWellModel$State", 48, "WishWellModel", "value", "[I", "WishWellModel"), ("WishWellModel$State", 76, "WishWellModel", "weight", "[I", "WishWellModel"), ("WishWellModel$State", 66, "WishWellModel", "tide", "[I", "WishWellModel"), ("WishWellModel$State", 57, "WishWellModel", "wishes", "I", "WishWellModel"), ("WishWellModel$State", 60, "WishWellModel", "kind", "[I", "WishWellModel"), ("WishWellModel$State", 63, "WishWellModel", "landOf", "[I", "WishWellModel")]
def nestM : List (String × Nat × MethodName × String) := [("WishWell", 9, ⟨"WishWell$Well", "<init>", "()V"⟩, "WishWell"), ("WishWell$Well", 11, ⟨"WishWell$Lands", "<init>", "()V"⟩, "WishWell"), ("WishWell$Well", 20, ⟨"WishWell$Wishes", "<init>", "()V"⟩, "WishWell"), ("WishWell$Well", 27, ⟨"WishWell$Layers", "<init>", "()V"⟩, "WishWell"), ("WishWellModel", 36, ⟨"WishWellModel$State", "<init>", "(LWishWellModel;)V"⟩, "WishWellModel")]
def NN (U : State) : Prop := (∀ q ∈ nestF, va_Nw (.fieldLinkNest q.1 q.2.1 q.2.2.1 q.2.2.2.1 q.2.2.2.2.1 q.2.2.2.2.2) U) ∧ (∀ q ∈ nestM, va_Nw (.methodLinkNest q.1 q.2.1 q.2.2.1 q.2.2.2) U)
theorem NN.warm {s U : State} (hW : s.WarmedH U.vm) (h : NN s) : NN U := ⟨fun q hq => va_Nw.warmF hW (h.1 q hq), fun q hq => va_Nw.warmM hW (h.2 q hq)⟩
theorem NN.same {u U : State} (e : u.vm = U.vm) (h : NN u) : NN U := ⟨fun q hq => va_Nw.same rfl e (h.1 q hq), fun q hq => va_Nw.same rfl e (h.2 q hq)⟩
abbrev tyL (cI cJ : ClassId) : List (ClassId × FieldType) := [(cI, .int), (cJ, .long)]
def Pw (D : va_G) (cI cJ : ClassId) (w : va_W) (sz : Nat) (U : State) : Prop := U.heap.size = sz ∧ va_P D vwCl w U.heap ∧ va_K D vwCl (tyL cI cJ) U ∧ NN U ∧ va_D (fun _ => True) w
theorem Pw.blind {D : va_G} {cI cJ : ClassId} {w : va_W} {sz : Nat} {av : List Value} : FrameBlind (va_Pc av (Pw D cI cJ w sz)) := fun a U g mk q => ⟨q.1, q.2.1, q.2.2.1, va_K.moved (u := U) (U := U.calling g mk a) (Vm.Alike.refl U.vm) q.2.2.2.1, NN.same (u := U) rfl q.2.2.2.2.1, q.2.2.2.2.2⟩
theorem fre {A : Nat → Prop} {w : va_W} {H0 H : Heap} {locs : List Loc} (hD : va_D A w) (hS : va_S A H0 H locs) (hA : ∀ q : Nat, H0.size ≤ q → A q) : ∀ q, va_A w H.size q → A q := by
  rintro q (⟨k, e, h⟩ | h)
  · exact hD.2 k (q, e) h
  · exact hA q (Nat.le_trans hS.1 h)
theorem D_map {A : Nat → Prop} {w w' : va_W} (hD : va_D A w) (h : w'.map Prod.fst = w.map Prod.fst) : va_D A w' := by
  have key : ∀ (i : Nat) (p : Nat × va_E), w'[i]? = some p → ∃ p', w[i]? = some p' ∧ p'.1 = p.1 := by
    intro i p hp
    have h1 : (w'.map Prod.fst)[i]? = some p.1 := by rw [List.getElem?_map, hp]; rfl
    rw [h, List.getElem?_map] at h1
    cases hw : w[i]? with
    | none => rw [hw] at h1; cases h1
    | some p' => rw [hw] at h1; exact ⟨p', rfl, Option.some.inj h1⟩
  refine ⟨fun i j p q hi hj e => ?_, fun k q hk => ?_⟩
  · obtain ⟨p', h1, e1⟩ := key i p hi
    obtain ⟨q', h2, e2⟩ := key j q hj
    exact hD.1 i j p' q' h1 h2 (by rw [e1, e2, e])
  · obtain ⟨p', h1, e1⟩ := key k q hk
    rw [← e1]
    exact hD.2 k p' h1
/-- a method as an equation: from the world w, with these arguments, it answers r and leaves the world w' -/
def Ci (l : Launch) (y : MethodName) (ws : List Cond) (rm : Room) (D : va_G) (cI cJ : ClassId) (av : List Value) (w : va_W) (r : Int32) (w' : va_W) : Prop :=
  ∀ sz : Nat, Met l y ws rm (va_Pc av (Pw D cI cJ w sz)) (va_Qi (fun x (_ : Unit) => x = r) (fun _ t => va_P D vwCl w' t.heap) (va_A w sz)) rm.cells rm.slots (va_A w sz)
def Cl (l : Launch) (y : MethodName) (ws : List Cond) (rm : Room) (D : va_G) (cI cJ : ClassId) (av : List Value) (w : va_W) (r : Int64) (w' : va_W) : Prop :=
  ∀ sz : Nat, Met l y ws rm (va_Pc av (Pw D cI cJ w sz)) (va_Ql (fun x (_ : Unit) => x = r) (fun _ t => va_P D vwCl w' t.heap) (va_A w sz)) rm.cells rm.slots (va_A w sz)
def Cv (l : Launch) (y : MethodName) (ws : List Cond) (rm : Room) (D : va_G) (cI cJ : ClassId) (av : List Value) (w : va_W) (w' : va_W) : Prop :=
  ∀ sz : Nat, Met l y ws rm (va_Pc av (Pw D cI cJ w sz)) (va_Qv (fun (_ : Unit) => True) (fun _ t => va_P D vwCl w' t.heap) (va_A w sz)) rm.cells rm.slots (va_A w sz)
/-- the body of a method whose end is Qc -/
def Bo (l : Launch) (y : MethodName) (ws : List Cond) (rm : Room) (cc : ByteArray) (maxL : Nat) (ret : Option FieldType) (D : va_G) (cI cJ : ClassId) (av : List Value) (w : va_W) (Qf : List Frame → State → (Nat → Prop) → State → Prop) : Prop :=
  ∀ (p : Program) (e : Env) (s : State) (m : MethodId) (below : List Frame) (meth : Method) (c : Code) (A : Nat → Prop) (ls : Array Slot), CallFix p m c cc maxL s av.toArray ws y.cls → meth.sig.returnType = ret → meth.locks = false → va_K D vwCl (tyL cI cJ) s → NN s → (∀ q : Nat, s.heap.size ≤ q → A q) → va_P D vwCl w s.heap → va_D A w → lv_has ls maxL (lv_args 0 av) → W p l e (headSpec ws rm).room s m av.toArray below meth c s.heap [] 0 0 (Qf below s A) (F0 m 0 ls [])
theorem Bo.met {l : Launch} {y : MethodName} {ws ws' : List Cond} {rm : Room} {cc : ByteArray} {maxL : Nat} {ret : Option FieldType} {D : va_G} {cI cJ : ClassId} {av : List Value} {w : va_W} {Qc : (Nat → Prop) → Array Value → State → Outcome → State → Prop} {mc ms : Nat} (hy : plainName y.cls = true) (hw : ws = Cond.code y cc maxL ret :: ws') (hlen : (lg_sl av).length ≤ maxL)
    (body : Bo l y ws rm cc maxL ret D cI cJ av w (fun below s A => MQ below (Qc A) av.toArray s mc ms A)) (sz : Nat) : Met l y ws rm (va_Pc av (Pw D cI cJ w sz)) (Qc (va_A w sz)) mc ms (va_A w sz) := by
  refine Met.ofW (cc := cc) (maxL := maxL) (ret := ret) hy hw ?_
  intro p e s m args below meth c s₁ B hml hv
  obtain ⟨rfl, hsz, hP, hK, hN, hD0⟩ := hv
  subst hsz
  have hl := lv_entry av (n := maxL) hlen
  rw [lg_entry_eq]
  exact body p e s m below meth c _ _ ⟨B.exec, B.bytes, hml, findClass_of_methodNamed B.named, atoms_spec B.pre⟩ B.returns B.notSynchronized hK hN (fun q h => Or.inr h) hP (hD0.self (sz := s.heap.size)) hl
section
variable {p : Program} {l : Launch} {e : Env} {R : Room} {s : State} {m : MethodId} {args : Array Value} {below : List Frame} {meth : Method} {c : Code} {H : Heap} {locs : List Loc} {cells slots : Nat} {Q : State → Prop}
variable {cc : ByteArray} {pc nL : Nat} {ls : Array Slot} {D : va_G} {A : Nat → Prop} {cI cJ : ClassId} {w w' w1 : va_W} {mc ms : Nat} {H0 : Heap} {Ts ws : List Cond} {own : String}
abbrev QI (below : List Frame) (D : va_G) (w' : va_W) (r : Int32) (args : Array Value) (s : State) (mc ms : Nat) (A : Nat → Prop) : State → Prop := MQ below (va_Qi (fun x (_ : Unit) => x = r) (fun _ t => va_P D vwCl w' t.heap) A) args s mc ms A
abbrev QL (below : List Frame) (D : va_G) (w' : va_W) (r : Int64) (args : Array Value) (s : State) (mc ms : Nat) (A : Nat → Prop) : State → Prop := MQ below (va_Ql (fun x (_ : Unit) => x = r) (fun _ t => va_P D vwCl w' t.heap) A) args s mc ms A
abbrev QV (below : List Frame) (D : va_G) (w' : va_W) (args : Array Value) (s : State) (mc ms : Nat) (A : Nat → Prop) : State → Prop := MQ below (va_Qv (fun (_ : Unit) => True) (fun _ t => va_P D vwCl w' t.heap) A) args s mc ms A
theorem eI {v r : Int32} (hx : p.tables.exec = Jvm.exec) (hb : c.code = cc) (hr : meth.sig.returnType = some .int) (hlk : meth.locks = false) (hP : va_P D vwCl w1 H) (hS : va_S A s.heap H locs) (hdg : decode cc pc = .ok (.ireturn, 1)) (hc : cells ≤ mc) (hs : slots ≤ ms) (ev : v = r) (ew : w1 = w') : W p l e R s m args below meth c H locs cells slots (QI below D w' r args s mc ms A) (F0 m pc ls [.int v]) := by
  subst ev; subst ew
  refine W.widen hc hs ?_
  exact W.iret hx hb hr (fun t ht hW => ⟨⟨v, (), rfl, rfl, by show va_P D vwCl w1 t.heap; rw [ht]; exact hP⟩, hS.F ht⟩) hS.2.2 hdg hlk
theorem eZ {v r : Int32} (hx : p.tables.exec = Jvm.exec) (hb : c.code = cc) (hr : meth.sig.returnType = some .boolean) (hn : narrow .boolean (.int v) = .int v) (hlk : meth.locks = false) (hP : va_P D vwCl w1 H) (hS : va_S A s.heap H locs) (hdg : decode cc pc = .ok (.ireturn, 1)) (hc : cells ≤ mc) (hs : slots ≤ ms) (ev : v = r) (ew : w1 = w') : W p l e R s m args below meth c H locs cells slots (QI below D w' r args s mc ms A) (F0 m pc ls [.int v]) := by
  subst ev; subst ew
  refine W.widen hc hs ?_
  exact W.zret hx hb hr hn (fun t ht hW => ⟨⟨v, (), rfl, rfl, by show va_P D vwCl w1 t.heap; rw [ht]; exact hP⟩, hS.F ht⟩) hS.2.2 hdg hlk
theorem eL {v r : Int64} (hx : p.tables.exec = Jvm.exec) (hb : c.code = cc) (hr : meth.sig.returnType = some .long) (hlk : meth.locks = false) (hP : va_P D vwCl w1 H) (hS : va_S A s.heap H locs) (hdg : decode cc pc = .ok (.lreturn, 1)) (hc : cells ≤ mc) (hs : slots ≤ ms) (ev : v = r) (ew : w1 = w') : W p l e R s m args below meth c H locs cells slots (QL below D w' r args s mc ms A) (F0 m pc ls [.long v]) := by
  subst ev; subst ew
  refine W.widen hc hs ?_
  exact W.lret hx hb hr (fun t ht hW => ⟨⟨v, (), rfl, rfl, by show va_P D vwCl w1 t.heap; rw [ht]; exact hP⟩, hS.F ht⟩) hS.2.2 hdg hlk
theorem eV (hx : p.tables.exec = Jvm.exec) (hb : c.code = cc) (hr : meth.sig.returnType = none) (hlk : meth.locks = false) (hP : va_P D vwCl w1 H) (hS : va_S A s.heap H locs) (hdg : decode cc pc = .ok (.return_, 1)) (hc : cells ≤ mc) (hs : slots ≤ ms) (ew : w1 = w') : W p l e R s m args below meth c H locs cells slots (QV below D w' args s mc ms A) (F0 m pc ls []) := by
  subst ew
  refine W.widen hc hs ?_
  exact W.vret hx hb hr (fun t ht hW => ⟨⟨(), rfl, trivial, by show va_P D vwCl w1 t.heap; rw [ht]; exact hP⟩, hS.F ht⟩) hS.2.2 hdg hlk
/-- a call of an instance method -/
theorem kVi {y : MethodName} {rm : Room} {C : String} {index : Nat} {bytes : ByteArray} {maxL n : Nat} {ret : Option FieldType} {b : Nat} {As rest st : List Value} {r : Int32} (B : CallFix p m c cc nL s args Ts own) (hK : va_K D vwCl (tyL cI cJ) s) (hN : NN s) (hP : va_P D vwCl w H) (hD : va_D A w) (hS : va_S A H0 H locs) (hA : ∀ q : Nat, H0.size ≤ q → A q)
    (hM : Ci l y ws rm D cI cJ (.ref b :: As) w r w') (cw : CallW R s args own C index y bytes maxL ret ws rm rm.cells rm.slots n) (ci q0 : Nat) {fs : List Value} {T : u_T} {N : Nat} (hci : vwCl[ci]? = some (C, T, N)) (he : w[q0]? = some (b, .inr (ci, fs))) (hn : As.length = n) (hl : ls.size = nL) (hst : st = As.reverse ++ .ref b :: rest) (h8 : (rest.map fun v => v.category).sum ≤ 8) (hdg : decode cc pc = .ok (.invokevirtual index, 3)) (hcs : cells + rm.cells ≤ R.cells ∧ slots + rm.slots ≤ R.slots) (ha : w'.map Prod.fst = w.map Prod.fst)
    (k : ∀ (H1 : Heap) (locs1 : List Loc), va_P D vwCl w' H1 → va_D A w' → va_S A H0 H1 locs1 → W p l e R s m args below meth c H1 locs1 (cells + rm.cells) (slots + rm.slots) Q (F0 m (pc + 3) ls (.int r :: rest))) : W p l e R s m args below meth c H locs cells slots Q (F0 m pc ls st) :=
  va_calli (va_runV (As := As) (rest := rest) B (hM H.size) cw ⟨Pw.blind, va_recv hK hP hci he, fun U hU hW => ⟨rfl, by rw [hU], by rw [hU]; exact hP, va_K.moved hW.alike hK, NN.warm hW hN, hD.weaken (fun _ _ _ _ => trivial)⟩⟩ rfl hn hl hst (lv_room h8) hdg hcs) hS (fun q _ h => fre hD hS hA q h) (fre hD hS hA) (fun x u t H1 locs1 ht hvm hw hB hz1 hk1 hS1 => by
    have hw : x = r := hw
    subst hw
    exact k H1 locs1 (ht ▸ hB) (D_map hD ha) hS1)
theorem kVv {y : MethodName} {rm : Room} {C : String} {index : Nat} {bytes : ByteArray} {maxL n : Nat} {ret : Option FieldType} {b : Nat} {As rest st : List Value} (B : CallFix p m c cc nL s args Ts own) (hK : va_K D vwCl (tyL cI cJ) s) (hN : NN s) (hP : va_P D vwCl w H) (hD : va_D A w) (hS : va_S A H0 H locs) (hA : ∀ q : Nat, H0.size ≤ q → A q)
    (hM : Cv l y ws rm D cI cJ (.ref b :: As) w w') (cw : CallW R s args own C index y bytes maxL ret ws rm rm.cells rm.slots n) (ci q0 : Nat) {fs : List Value} {T : u_T} {N : Nat} (hci : vwCl[ci]? = some (C, T, N)) (he : w[q0]? = some (b, .inr (ci, fs))) (hn : As.length = n) (hl : ls.size = nL) (hst : st = As.reverse ++ .ref b :: rest) (h8 : (rest.map fun v => v.category).sum ≤ 8) (hdg : decode cc pc = .ok (.invokevirtual index, 3)) (hcs : cells + rm.cells ≤ R.cells ∧ slots + rm.slots ≤ R.slots) (ha : w'.map Prod.fst = w.map Prod.fst)
    (k : ∀ (H1 : Heap) (locs1 : List Loc), va_P D vwCl w' H1 → va_D A w' → va_S A H0 H1 locs1 → W p l e R s m args below meth c H1 locs1 (cells + rm.cells) (slots + rm.slots) Q (F0 m (pc + 3) ls rest)) : W p l e R s m args below meth c H locs cells slots Q (F0 m pc ls st) :=
  va_callv (va_runV (As := As) (rest := rest) B (hM H.size) cw ⟨Pw.blind, va_recv hK hP hci he, fun U hU hW => ⟨rfl, by rw [hU], by rw [hU]; exact hP, va_K.moved hW.alike hK, NN.warm hW hN, hD.weaken (fun _ _ _ _ => trivial)⟩⟩ rfl hn hl hst (lv_room h8) hdg hcs) hS (fun q _ h => fre hD hS hA q h) (fre hD hS hA) (fun u t H1 locs1 ht hvm hw hB hz1 hk1 hS1 => k H1 locs1 (ht ▸ hB) (D_map hD ha) hS1)
theorem kVl {y : MethodName} {rm : Room} {C : String} {index : Nat} {bytes : ByteArray} {maxL n : Nat} {ret : Option FieldType} {b : Nat} {As rest st : List Value} {r : Int64} (B : CallFix p m c cc nL s args Ts own) (hK : va_K D vwCl (tyL cI cJ) s) (hN : NN s) (hP : va_P D vwCl w H) (hD : va_D A w) (hS : va_S A H0 H locs) (hA : ∀ q : Nat, H0.size ≤ q → A q)
    (hM : Cl l y ws rm D cI cJ (.ref b :: As) w r w') (cw : CallW R s args own C index y bytes maxL ret ws rm rm.cells rm.slots n) (ci q0 : Nat) {fs : List Value} {T : u_T} {N : Nat} (hci : vwCl[ci]? = some (C, T, N)) (he : w[q0]? = some (b, .inr (ci, fs))) (hn : As.length = n) (hl : ls.size = nL) (hst : st = As.reverse ++ .ref b :: rest) (h8 : (rest.map fun v => v.category).sum ≤ 8) (hdg : decode cc pc = .ok (.invokevirtual index, 3)) (hcs : cells + rm.cells ≤ R.cells ∧ slots + rm.slots ≤ R.slots) (ha : w'.map Prod.fst = w.map Prod.fst)
    (k : ∀ (H1 : Heap) (locs1 : List Loc), va_P D vwCl w' H1 → va_D A w' → va_S A H0 H1 locs1 → W p l e R s m args below meth c H1 locs1 (cells + rm.cells) (slots + rm.slots) Q (F0 m (pc + 3) ls (.long r :: rest))) : W p l e R s m args below meth c H locs cells slots Q (F0 m pc ls st) :=
  va_calll (va_runV (As := As) (rest := rest) B (hM H.size) cw ⟨Pw.blind, va_recv hK hP hci he, fun U hU hW => ⟨rfl, by rw [hU], by rw [hU]; exact hP, va_K.moved hW.alike hK, NN.warm hW hN, hD.weaken (fun _ _ _ _ => trivial)⟩⟩ rfl hn hl hst (lv_room h8) hdg hcs) hS (fun q _ h => fre hD hS hA q h) (fre hD hS hA) (fun x u t H1 locs1 ht hvm hw hB hz1 hk1 hS1 => by
    have hw : x = r := hw
    subst hw
    exact k H1 locs1 (ht ▸ hB) (D_map hD ha) hS1)
/-- a call of a static method -/
theorem kSi {y : MethodName} {rm : Room} {index : Nat} {bytes : ByteArray} {maxL n : Nat} {ret : Option FieldType} {As rest st : List Value} {r : Int32} (B : CallFix p m c cc nL s args Ts own) (hK : va_K D vwCl (tyL cI cJ) s) (hN : NN s) (hP : va_P D vwCl w H) (hD : va_D A w) (hS : va_S A H0 H locs) (hA : ∀ q : Nat, H0.size ≤ q → A q)
    (hM : Ci l y ws rm D cI cJ As w r w') (cw : CallB R s args own index y bytes maxL ret ws rm rm.cells rm.slots n ∧ (Cond.static y).before args s = true) (hn : As.length = n) (hl : ls.size = nL) (hst : st = As.reverse ++ rest) (h8 : (rest.map fun v => v.category).sum ≤ 8) (hdg : decode cc pc = .ok (.invokestatic index, 3)) (hcs : cells + rm.cells ≤ R.cells ∧ slots + rm.slots ≤ R.slots) (ha : w'.map Prod.fst = w.map Prod.fst)
    (k : ∀ (H1 : Heap) (locs1 : List Loc), va_P D vwCl w' H1 → va_D A w' → va_S A H0 H1 locs1 → W p l e R s m args below meth c H1 locs1 (cells + rm.cells) (slots + rm.slots) Q (F0 m (pc + 3) ls (.int r :: rest))) : W p l e R s m args below meth c H locs cells slots Q (F0 m pc ls st) :=
  va_calli (va_runS (As := As) (rest := rest) B (hM H.size) cw ⟨Pw.blind, fun U hU hW => ⟨rfl, by rw [hU], by rw [hU]; exact hP, va_K.moved hW.alike hK, NN.warm hW hN, hD.weaken (fun _ _ _ _ => trivial)⟩⟩ rfl hn hl hst (lv_room h8) hdg hcs) hS (fun q _ h => fre hD hS hA q h) (fre hD hS hA) (fun x u t H1 locs1 ht hvm hw hB hz1 hk1 hS1 => by
    have hw : x = r := hw
    subst hw
    exact k H1 locs1 (ht ▸ hB) (D_map hD ha) hS1)
theorem kSv {y : MethodName} {rm : Room} {index : Nat} {bytes : ByteArray} {maxL n : Nat} {ret : Option FieldType} {As rest st : List Value} (B : CallFix p m c cc nL s args Ts own) (hK : va_K D vwCl (tyL cI cJ) s) (hN : NN s) (hP : va_P D vwCl w H) (hD : va_D A w) (hS : va_S A H0 H locs) (hA : ∀ q : Nat, H0.size ≤ q → A q)
    (hM : Cv l y ws rm D cI cJ As w w') (cw : CallB R s args own index y bytes maxL ret ws rm rm.cells rm.slots n ∧ (Cond.static y).before args s = true) (hn : As.length = n) (hl : ls.size = nL) (hst : st = As.reverse ++ rest) (h8 : (rest.map fun v => v.category).sum ≤ 8) (hdg : decode cc pc = .ok (.invokestatic index, 3)) (hcs : cells + rm.cells ≤ R.cells ∧ slots + rm.slots ≤ R.slots) (ha : w'.map Prod.fst = w.map Prod.fst)
    (k : ∀ (H1 : Heap) (locs1 : List Loc), va_P D vwCl w' H1 → va_D A w' → va_S A H0 H1 locs1 → W p l e R s m args below meth c H1 locs1 (cells + rm.cells) (slots + rm.slots) Q (F0 m (pc + 3) ls rest)) : W p l e R s m args below meth c H locs cells slots Q (F0 m pc ls st) :=
  va_callv (va_runS (As := As) (rest := rest) B (hM H.size) cw ⟨Pw.blind, fun U hU hW => ⟨rfl, by rw [hU], by rw [hU]; exact hP, va_K.moved hW.alike hK, NN.warm hW hN, hD.weaken (fun _ _ _ _ => trivial)⟩⟩ rfl hn hl hst (lv_room h8) hdg hcs) hS (fun q _ h => fre hD hS hA q h) (fre hD hS hA) (fun u t H1 locs1 ht hvm hw hB hz1 hk1 hS1 => k H1 locs1 (ht ▸ hB) (D_map hD ha) hS1)
end
/-! loops as functions with fuel: a step goes on (inl), ends (inr), or is stuck (none) -/
def lp {σ ρ : Type} (f : σ → Option (σ ⊕ ρ)) : Nat → σ → Option ρ
  | 0, _ => none
  | n + 1, s => match f s with
    | none => none
    | some (.inl s') => lp f n s'
    | some (.inr r) => some r
theorem lp_walk {σ ρ : Type} {f : σ → Option (σ ⊕ ρ)} {n : Nat} {s : σ} {r : ρ} (h : lp f (n + 1) s = some r) : ∃ z, f s = some z ∧ ((∃ s', z = .inl s' ∧ lp f n s' = some r) ∨ z = .inr r) := by
  simp only [lp] at h
  cases hf : f s with
  | none => rw [hf] at h; cases h
  | some z =>
    rw [hf] at h
    refine ⟨z, rfl, ?_⟩
    cases z with
    | inl s' => exact Or.inl ⟨s', rfl, h⟩
    | inr r' => exact Or.inr (by rw [Option.some.inj h])
theorem lp_0 {σ ρ : Type} {f : σ → Option (σ ⊕ ρ)} {s : σ} {r : ρ} (h : lp f 0 s = some r) : False := by cases h
theorem lp_inl {σ ρ : Type} {f : σ → Option (σ ⊕ ρ)} {n : Nat} {s s' : σ} (h : f s = some (.inl s')) : lp f (n + 1) s = lp f n s' := by simp only [lp, h]
theorem lp_inr {σ ρ : Type} {f : σ → Option (σ ⊕ ρ)} {n : Nat} {s : σ} {r : ρ} (h : f s = some (.inr r)) : lp f (n + 1) s = some r := by simp only [lp, h]
/-- an access that must lie inside, a divisor that must not be 0: stuck else -/
noncomputable def gd {α : Type} (c : Prop) (x : Option α) : Option α := @ite _ c (Classical.propDecidable c) x none
theorem gd_I {α : Type} {c : Prop} {x : Option α} {z : α} (h : gd c x = some z) : c ∧ x = some z := by
  unfold gd at h
  by_cases hc : c
  · rw [if_pos hc] at h; exact ⟨hc, h⟩
  · rw [if_neg hc] at h; cases h
theorem gd_T {α : Type} {c : Prop} {x : Option α} (hc : c) : gd c x = x := by unfold gd; rw [if_pos hc]
/-- a named value -/
def lt_ {α β : Type} (x : α) (k : α → β) : β := k x
theorem lt_I {α β : Type} {x : α} {k : α → β} {z : β} (h : lt_ x k = z) : ∃ y, y = x ∧ k y = z := ⟨x, rfl, h⟩
def b2 {α β δ : Type} (o : Option (α × β)) (k : α → β → Option δ) : Option δ := o.bind fun q => k q.1 q.2
def b3 {α β γ δ : Type} (o : Option (α × β × γ)) (k : α → β → γ → Option δ) : Option δ := o.bind fun q => k q.1 q.2.1 q.2.2
def b4 {α β γ ε δ : Type} (o : Option (α × β × γ × ε)) (k : α → β → γ → ε → Option δ) : Option δ := o.bind fun q => k q.1 q.2.1 q.2.2.1 q.2.2.2
def b5 {α β γ ε ζ δ : Type} (o : Option (α × β × γ × ε × ζ)) (k : α → β → γ → ε → ζ → Option δ) : Option δ := o.bind fun q => k q.1 q.2.1 q.2.2.1 q.2.2.2.1 q.2.2.2.2
theorem b2_I {α β δ : Type} {o : Option (α × β)} {k : α → β → Option δ} {z : δ} (h : b2 o k = some z) : ∃ a b, o = some (a, b) ∧ k a b = some z := by
  cases o with
  | none => cases h
  | some x => exact ⟨x.1, x.2, rfl, h⟩
theorem b3_I {α β γ δ : Type} {o : Option (α × β × γ)} {k : α → β → γ → Option δ} {z : δ} (h : b3 o k = some z) : ∃ a b c, o = some (a, b, c) ∧ k a b c = some z := by
  cases o with
  | none => cases h
  | some x => exact ⟨x.1, x.2.1, x.2.2, rfl, h⟩
theorem b4_I {α β γ ε δ : Type} {o : Option (α × β × γ × ε)} {k : α → β → γ → ε → Option δ} {z : δ} (h : b4 o k = some z) : ∃ a b c d, o = some (a, b, c, d) ∧ k a b c d = some z := by
  cases o with
  | none => cases h
  | some x => exact ⟨x.1, x.2.1, x.2.2.1, x.2.2.2, rfl, h⟩
theorem b5_I {α β γ ε ζ δ : Type} {o : Option (α × β × γ × ε × ζ)} {k : α → β → γ → ε → ζ → Option δ} {z : δ} (h : b5 o k = some z) : ∃ a b c d e, o = some (a, b, c, d, e) ∧ k a b c d e = some z := by
  cases o with
  | none => cases h
  | some x => exact ⟨x.1, x.2.1, x.2.2.1, x.2.2.2.1, x.2.2.2.2, rfl, h⟩
/-- rows by number, one changed -/
def uG (G : Nat → Nat → Int32) (k : Nat) (f : Nat → Int32) : Nat → Nat → Int32 := fun j => if j = k then f else G j
def uS (g : Nat → Int32) (k : Nat) (v : Int32) : Nat → Int32 := fun j => if j = k then v else g j
theorem bd_I {α β : Type} {o : Option α} {k : α → Option β} {z : β} (h : o.bind k = some z) : ∃ x, o = some x ∧ k x = some z := by
  cases o with
  | none => cases h
  | some x => exact ⟨x, rfl, h⟩
theorem ip_ {α : Sort _} {c : Prop} {d : Decidable c} {x y z : α} (h : (@ite _ c d x y) = z) (hc : c) : x = z := by rw [if_pos hc] at h; exact h
theorem in_ {α : Sort _} {c : Prop} {d : Decidable c} {x y z : α} (h : (@ite _ c d x y) = z) (hc : ¬ c) : y = z := by rw [if_neg hc] at h; exact h
/-! the rows of the class: an index outside is 0, and puts nothing -/
def rAt (n : Nat) (f : Nat → Int32) (i : Int32) : Int32 := if i < 0 then 0 else if nI n ≤ i then 0 else f i.toNatClampNeg
def rPut (n : Nat) (f : Nat → Int32) (i x : Int32) : Nat → Int32 := if i < 0 then f else if nI n ≤ i then f else upd f i.toNatClampNeg x
def rAdd (n : Nat) (f : Nat → Int32) (i x : Int32) : Nat → Int32 := if i < 0 then f else if nI n ≤ i then f else upd f i.toNatClampNeg (f i.toNatClampNeg + x)
theorem r_in {n : Nat} {i : Int32} (hn : n < 2 ^ 31) (h1 : ¬ i < 0) (h2 : ¬ nI n ≤ i) : vp_in i n := by
  rcases pk_ix i hn with h | h | ⟨j, hj, rfl⟩
  · exact absurd h h1
  · exact absurd h h2
  · exact vp_in_nI hj hn

/-! starts, by the kind of the answer -/
theorem Ci.mk {l : Launch} {y : MethodName} {ws ws' : List Cond} {rm : Room} {cc : ByteArray} {maxL : Nat} {ret : Option FieldType} {D : va_G} {cI cJ : ClassId} {av : List Value} {w w' : va_W} {r : Int32} (hy : plainName y.cls = true) (hw : ws = Cond.code y cc maxL ret :: ws') (hlen : (lg_sl av).length ≤ maxL)
    (body : Bo l y ws rm cc maxL ret D cI cJ av w (fun below s A => QI below D w' r av.toArray s rm.cells rm.slots A)) : Ci l y ws rm D cI cJ av w r w' := fun sz => Bo.met (Qc := fun A => va_Qi (fun x (_ : Unit) => x = r) (fun _ t => va_P D vwCl w' t.heap) A) hy hw hlen body sz
theorem Cl.mk {l : Launch} {y : MethodName} {ws ws' : List Cond} {rm : Room} {cc : ByteArray} {maxL : Nat} {ret : Option FieldType} {D : va_G} {cI cJ : ClassId} {av : List Value} {w w' : va_W} {r : Int64} (hy : plainName y.cls = true) (hw : ws = Cond.code y cc maxL ret :: ws') (hlen : (lg_sl av).length ≤ maxL)
    (body : Bo l y ws rm cc maxL ret D cI cJ av w (fun below s A => QL below D w' r av.toArray s rm.cells rm.slots A)) : Cl l y ws rm D cI cJ av w r w' := fun sz => Bo.met (Qc := fun A => va_Ql (fun x (_ : Unit) => x = r) (fun _ t => va_P D vwCl w' t.heap) A) hy hw hlen body sz
theorem Cv.mk {l : Launch} {y : MethodName} {ws ws' : List Cond} {rm : Room} {cc : ByteArray} {maxL : Nat} {ret : Option FieldType} {D : va_G} {cI cJ : ClassId} {av : List Value} {w w' : va_W} (hy : plainName y.cls = true) (hw : ws = Cond.code y cc maxL ret :: ws') (hlen : (lg_sl av).length ≤ maxL)
    (body : Bo l y ws rm cc maxL ret D cI cJ av w (fun below s A => QV below D w' av.toArray s rm.cells rm.slots A)) : Cv l y ws rm D cI cJ av w w' := fun sz => Bo.met (Qc := fun A => va_Qv (fun (_ : Unit) => True) (fun _ t => va_P D vwCl w' t.heap) A) hy hw hlen body sz
end
section
/-! WishWell$Row: its four methods over any world that holds the row and its cells -/
theorem rAt_0 {n : Nat} {f : Nat → Int32} {i : Int32} (h : i < 0) : 0 = rAt n f i := by simp only [rAt, if_pos h]
theorem rAt_1 {n : Nat} {f : Nat → Int32} {i : Int32} (h : ¬ i < 0) (h2 : nI n ≤ i) : 0 = rAt n f i := by simp only [rAt, if_neg h, if_pos h2]
theorem rAt_2 {n : Nat} {f : Nat → Int32} {i : Int32} (h : ¬ i < 0) (h2 : ¬ nI n ≤ i) : f i.toNatClampNeg = rAt n f i := by simp only [rAt, if_neg h, if_neg h2]
abbrev rm0_0 : Room := { frames := 0, cells := 0, slots := 0, locals := 0 }
set_option maxHeartbeats 4000000 in
set_option maxRecDepth 100000 in
theorem c_X2_at (l : Launch) (D : va_G) (cI cJ : ClassId) (w : va_W) (h0 h1 n : Nat) (f : Nat → Int32) (q0 q1 : Nat) (e0 : w[q0]? = some (h0, .inr (5, [.ref h1]))) (e1 : w[q1]? = some (h1, .inl (cI, n, .inl f))) (hn : n < 2 ^ 31) (i : Int32) : Ci l yX2_at wsX2_at rm0_0 D cI cJ [.ref h0, .int i] w (rAt n f i) w := by
  refine Ci.mk (cc := cX2_at) (maxL := 2) (ret := some .int) (by decide) rfl (Nat.le_of_ble_eq_true rfl) ?_
  intro p e s m below meth c A ls B hr hlk hK hN hA hP hD hl
  obtain ⟨hx, hb, hml, hown, hts⟩ := id B
  have hS : va_S A s.heap s.heap [] := va_S.rf
  have hl : lv_has ls 2 [(0, .ref h0), (1, .int i)] := hl
  refine lv_iload_n hx hb dX2_at_0 rfl (lv_at hl 1 rfl) ?_
  refine lv_if_lt (tgt := 22) hx hb dX2_at_1 (by decide) (fun c_1 => ?_) (fun c_1 => ?_)
  · refine lv_iconst (v := 0) hx hb dX2_at_22 (by decide) ?_
    exact eI hx hb hr hlk hP hS dX2_at_23 (Nat.le_of_ble_eq_true rfl) (Nat.le_of_ble_eq_true rfl) (rAt_0 c_1) rfl
  · refine lv_iload_n hx hb dX2_at_4 rfl (lv_at hl 1 rfl) ?_
    refine lv_aload_n hx hb dX2_at_5 rfl (lv_at hl 0 rfl) ?_
    refine va_get (ci := 5) (v := .ref h1) (C := RX2) (T := TX2) (N := 1) hx hb hts (by decide +kernel) hown hK hP q0 e0 rfl 0 (by decide) (hts (.fieldLink RX2 7 "WishWell$Row" "cells" "[I") (List.mem_of_getElem? (i := 1) rfl)) (fun _ h9 => h9) rfl dX2_at_6 ?_
    refine va_alen (v := nI n) hx hb hK hP q1 0 e1 rfl rfl dX2_at_9 ?_
    refine lv_icmp_ge (tgt := 22) hx hb dX2_at_10 (by decide) (fun c_2 => ?_) (fun c_2 => ?_)
    · refine lv_iconst (v := 0) hx hb dX2_at_22 (by decide) ?_
      exact eI hx hb hr hlk hP hS dX2_at_23 (Nat.le_of_ble_eq_true rfl) (Nat.le_of_ble_eq_true rfl) (rAt_1 c_1 c_2) rfl
    · refine lv_aload_n hx hb dX2_at_13 rfl (lv_at hl 0 rfl) ?_
      refine va_get (ci := 5) (v := .ref h1) (C := RX2) (T := TX2) (N := 1) hx hb hts (by decide +kernel) hown hK hP q0 e0 rfl 0 (by decide) (hts (.fieldLink RX2 7 "WishWell$Row" "cells" "[I") (List.mem_of_getElem? (i := 1) rfl)) (fun _ h9 => h9) rfl dX2_at_14 ?_
      refine lv_iload_n hx hb dX2_at_17 rfl (lv_at hl 1 rfl) ?_
      refine va_iald hx hb hK hP q1 0 e1 rfl (r_in hn c_1 c_2) dX2_at_18 ?_
      refine lv_goto (tgt := 23) hx hb dX2_at_19 (by decide) ?_
      exact eI hx hb hr hlk hP hS dX2_at_23 (Nat.le_of_ble_eq_true rfl) (Nat.le_of_ble_eq_true rfl) (rAt_2 c_1 c_2) rfl
set_option maxHeartbeats 4000000 in
set_option maxRecDepth 100000 in
theorem c_X2_put (l : Launch) (D : va_G) (cI cJ : ClassId) (w w' : va_W) (h0 h1 n : Nat) (f : Nat → Int32) (q0 q1 : Nat) (e0 : w[q0]? = some (h0, .inr (5, [.ref h1]))) (e1 : w[q1]? = some (h1, .inl (cI, n, .inl f))) (hn : n < 2 ^ 31) (i x : Int32) (ew : w.set q1 (h1, .inl (cI, n, .inl (rPut n f i x))) = w') (ew0 : w.set q1 (h1, .inl (cI, n, .inl f)) = w) : Cv l yX2_put wsX2_put rm0_0 D cI cJ [.ref h0, .int i, .int x] w w' := by
  refine Cv.mk (cc := cX2_put) (maxL := 3) (ret := none) (by decide) rfl (Nat.le_of_ble_eq_true rfl) ?_
  intro p e s m below meth c A ls B hr hlk hK hN hA hP hD hl
  obtain ⟨hx, hb, hml, hown, hts⟩ := id B
  have hS : va_S A s.heap s.heap [] := va_S.rf
  have hl : lv_has ls 3 [(0, .ref h0), (1, .int i), (2, .int x)] := hl
  refine lv_iload_n hx hb dX2_put_0 rfl (lv_at hl 1 rfl) ?_
  refine lv_if_lt (tgt := 20) hx hb dX2_put_1 (by decide) (fun c_1 => ?_) (fun c_1 => ?_)
  · exact eV hx hb hr hlk hP hS dX2_put_20 (Nat.le_of_ble_eq_true rfl) (Nat.le_of_ble_eq_true rfl) (by rw [← ew]; simp only [rPut, if_pos c_1]; exact ew0.symm)
  · refine lv_iload_n hx hb dX2_put_4 rfl (lv_at hl 1 rfl) ?_
    refine lv_aload_n hx hb dX2_put_5 rfl (lv_at hl 0 rfl) ?_
    refine va_get (ci := 5) (v := .ref h1) (C := RX2) (T := TX2) (N := 1) hx hb hts (by decide +kernel) hown hK hP q0 e0 rfl 0 (by decide) (hts (.fieldLink RX2 7 "WishWell$Row" "cells" "[I") (List.mem_of_getElem? (i := 1) rfl)) (fun _ h9 => h9) rfl dX2_put_6 ?_
    refine va_alen (v := nI n) hx hb hK hP q1 0 e1 rfl rfl dX2_put_9 ?_
    refine lv_icmp_ge (tgt := 20) hx hb dX2_put_10 (by decide) (fun c_2 => ?_) (fun c_2 => ?_)
    · exact eV hx hb hr hlk hP hS dX2_put_20 (Nat.le_of_ble_eq_true rfl) (Nat.le_of_ble_eq_true rfl) (by rw [← ew]; simp only [rPut, if_neg c_1]; rw [if_pos c_2]; exact ew0.symm)
    · refine lv_aload_n hx hb dX2_put_13 rfl (lv_at hl 0 rfl) ?_
      refine va_get (ci := 5) (v := .ref h1) (C := RX2) (T := TX2) (N := 1) hx hb hts (by decide +kernel) hown hK hP q0 e0 rfl 0 (by decide) (hts (.fieldLink RX2 7 "WishWell$Row" "cells" "[I") (List.mem_of_getElem? (i := 1) rfl)) (fun _ h9 => h9) rfl dX2_put_14 ?_
      refine lv_iload_n hx hb dX2_put_17 rfl (lv_at hl 1 rfl) ?_
      refine lv_iload_n hx hb dX2_put_18 rfl (lv_at hl 2 rfl) ?_
      refine va_iast hx hb hK hP hD hS q1 0 e1 rfl (r_in hn c_1 c_2) dX2_put_19 (fun H locs hP hD hS => ?_)
      exact eV hx hb hr hlk hP hS dX2_put_20 (Nat.le_of_ble_eq_true rfl) (Nat.le_of_ble_eq_true rfl) (by rw [← ew]; simp only [rPut, if_neg c_1]; rw [if_neg c_2])
set_option maxHeartbeats 4000000 in
set_option maxRecDepth 100000 in
theorem c_X2_add (l : Launch) (D : va_G) (cI cJ : ClassId) (w w' : va_W) (h0 h1 n : Nat) (f : Nat → Int32) (q0 q1 : Nat) (e0 : w[q0]? = some (h0, .inr (5, [.ref h1]))) (e1 : w[q1]? = some (h1, .inl (cI, n, .inl f))) (hn : n < 2 ^ 31) (i x : Int32) (ew : w.set q1 (h1, .inl (cI, n, .inl (rAdd n f i x))) = w') (ew0 : w.set q1 (h1, .inl (cI, n, .inl f)) = w) : Cv l yX2_add wsX2_add rm0_0 D cI cJ [.ref h0, .int i, .int x] w w' := by
  refine Cv.mk (cc := cX2_add) (maxL := 3) (ret := none) (by decide) rfl (Nat.le_of_ble_eq_true rfl) ?_
  intro p e s m below meth c A ls B hr hlk hK hN hA hP hD hl
  obtain ⟨hx, hb, hml, hown, hts⟩ := id B
  have hS : va_S A s.heap s.heap [] := va_S.rf
  have hl : lv_has ls 3 [(0, .ref h0), (1, .int i), (2, .int x)] := hl
  refine lv_iload_n hx hb dX2_add_0 rfl (lv_at hl 1 rfl) ?_
  refine lv_if_lt (tgt := 23) hx hb dX2_add_1 (by decide) (fun c_1 => ?_) (fun c_1 => ?_)
  · exact eV hx hb hr hlk hP hS dX2_add_23 (Nat.le_of_ble_eq_true rfl) (Nat.le_of_ble_eq_true rfl) (by rw [← ew]; simp only [rAdd, if_pos c_1]; exact ew0.symm)
  · refine lv_iload_n hx hb dX2_add_4 rfl (lv_at hl 1 rfl) ?_
    refine lv_aload_n hx hb dX2_add_5 rfl (lv_at hl 0 rfl) ?_
    refine va_get (ci := 5) (v := .ref h1) (C := RX2) (T := TX2) (N := 1) hx hb hts (by decide +kernel) hown hK hP q0 e0 rfl 0 (by decide) (hts (.fieldLink RX2 7 "WishWell$Row" "cells" "[I") (List.mem_of_getElem? (i := 1) rfl)) (fun _ h9 => h9) rfl dX2_add_6 ?_
    refine va_alen (v := nI n) hx hb hK hP q1 0 e1 rfl rfl dX2_add_9 ?_
    refine lv_icmp_ge (tgt := 23) hx hb dX2_add_10 (by decide) (fun c_2 => ?_) (fun c_2 => ?_)
    · exact eV hx hb hr hlk hP hS dX2_add_23 (Nat.le_of_ble_eq_true rfl) (Nat.le_of_ble_eq_true rfl) (by rw [← ew]; simp only [rAdd, if_neg c_1]; rw [if_pos c_2]; exact ew0.symm)
    · refine lv_aload_n hx hb dX2_add_13 rfl (lv_at hl 0 rfl) ?_
      refine va_get (ci := 5) (v := .ref h1) (C := RX2) (T := TX2) (N := 1) hx hb hts (by decide +kernel) hown hK hP q0 e0 rfl 0 (by decide) (hts (.fieldLink RX2 7 "WishWell$Row" "cells" "[I") (List.mem_of_getElem? (i := 1) rfl)) (fun _ h9 => h9) rfl dX2_add_14 ?_
      refine lv_iload_n hx hb dX2_add_17 rfl (lv_at hl 1 rfl) ?_
      refine lv_dup2_11 hx hb dX2_add_18 rfl rfl ?_
      refine va_iald hx hb hK hP q1 0 e1 rfl (r_in hn c_1 c_2) dX2_add_19 ?_
      refine lv_iload_n hx hb dX2_add_20 rfl (lv_at hl 2 rfl) ?_
      refine lv_iadd hx hb dX2_add_21 ?_
      refine va_iast hx hb hK hP hD hS q1 0 e1 rfl (r_in hn c_1 c_2) dX2_add_22 (fun H locs hP hD hS => ?_)
      exact eV hx hb hr hlk hP hS dX2_add_23 (Nat.le_of_ble_eq_true rfl) (Nat.le_of_ble_eq_true rfl) (by rw [← ew]; simp only [rAdd, if_neg c_1]; rw [if_neg c_2])
/-- the rows' copy: as many as the row holds -/
def rCp (n : Nat) (f g : Nat → Int32) : Nat → Int32 := va_cpy f g 0 0 n
set_option maxHeartbeats 4000000 in
set_option maxRecDepth 100000 in
theorem c_X2_takeOver (l : Launch) (D : va_G) (cI cJ : ClassId) (w w' : va_W) (h0 h1 k0 k1 n : Nat) (f g : Nat → Int32) (q0 q1 q2 q3 : Nat) (e0 : w[q0]? = some (h0, .inr (5, [.ref h1]))) (e1 : w[q1]? = some (h1, .inl (cI, n, .inl g))) (e2 : w[q2]? = some (k0, .inr (5, [.ref k1]))) (e3 : w[q3]? = some (k1, .inl (cI, n, .inl f))) (hn : n < 2 ^ 31) (ew : w.set q1 (h1, .inl (cI, n, .inl (rCp n f g))) = w') : Cv l yX2_takeOver wsX2_takeOver ({ frames := 1, cells := 0, slots := 0, locals := 60 }) D cI cJ [.ref h0, .ref k0] w w' := by
  refine Cv.mk (cc := cX2_takeOver) (maxL := 2) (ret := none) (by decide) rfl (Nat.le_of_ble_eq_true rfl) ?_
  intro p e s m below meth c A ls B hr hlk hK hN hA hP hD hl
  obtain ⟨hx, hb, hml, hown, hts⟩ := id B
  have hS : va_S A s.heap s.heap [] := va_S.rf
  have hl : lv_has ls 2 [(0, .ref h0), (1, .ref k0)] := hl
  have hi := (by decide +kernel : ∀ w ∈ u_ws RX2 TX2 1, w ∈ wsX2_takeOver)
  refine lv_aload_n hx hb dX2_takeOver_0 rfl (lv_at hl 1 rfl) ?_
  refine va_get (ci := 5) (v := .ref k1) (C := RX2) (T := TX2) (N := 1) hx hb hts hi hown hK hP q2 e2 rfl 0 (by decide) (hts (.fieldLink RX2 7 "WishWell$Row" "cells" "[I") (List.mem_of_getElem? (i := 1) rfl)) (fun _ h9 => h9) rfl dX2_takeOver_1 ?_
  refine lv_iconst (v := 0) hx hb dX2_takeOver_4 (by decide) ?_
  refine lv_aload_n hx hb dX2_takeOver_5 rfl (lv_at hl 0 rfl) ?_
  refine va_get (ci := 5) (v := .ref h1) (C := RX2) (T := TX2) (N := 1) hx hb hts hi hown hK hP q0 e0 rfl 0 (by decide) (hts (.fieldLink RX2 7 "WishWell$Row" "cells" "[I") (List.mem_of_getElem? (i := 1) rfl)) (fun _ h9 => h9) rfl dX2_takeOver_6 ?_
  refine lv_iconst (v := 0) hx hb dX2_takeOver_9 (by decide) ?_
  refine lv_aload_n hx hb dX2_takeOver_10 rfl (lv_at hl 1 rfl) ?_
  refine va_get (ci := 5) (v := .ref k1) (C := RX2) (T := TX2) (N := 1) hx hb hts hi hown hK hP q2 e2 rfl 0 (by decide) (hts (.fieldLink RX2 7 "WishWell$Row" "cells" "[I") (List.mem_of_getElem? (i := 1) rfl)) (fun _ h9 => h9) rfl dX2_takeOver_11 ?_
  refine va_alen (v := nI n) hx hb hK hP q3 0 e3 rfl rfl dX2_takeOver_14 ?_
  refine lv_aload_n hx hb dX2_takeOver_15 rfl (lv_at hl 0 rfl) ?_
  refine va_get (ci := 5) (v := .ref h1) (C := RX2) (T := TX2) (N := 1) hx hb hts hi hown hK hP q0 e0 rfl 0 (by decide) (hts (.fieldLink RX2 7 "WishWell$Row" "cells" "[I") (List.mem_of_getElem? (i := 1) rfl)) (fun _ h9 => h9) rfl dX2_takeOver_16 ?_
  refine va_alen (v := nI n) hx hb hK hP q1 0 e1 rfl rfl dX2_takeOver_19 ?_
  refine va_mmin hx hb (hml.trans hl.1.symm) hown (hts (.methodLink RX2 13 Lib.Math.min.name) (List.mem_of_getElem? (i := 2) rfl)) (hts (.static Lib.Math.min.name) (List.mem_of_getElem? (i := 3) rfl)) (hts (.initialized "java/lang/Math") (List.mem_of_getElem? (i := 4) rfl)) (hts (.code Lib.Math.min.name Lib.Math.min.code 2 (some .int)) (List.mem_of_getElem? (i := 5) rfl)) (Nat.le_of_ble_eq_true rfl) (Nat.le_of_ble_eq_true rfl) (Nat.le_of_ble_eq_true rfl) (Nat.le_of_ble_eq_true rfl) dX2_takeOver_20 ?_
  have hmin : (if nI n < nI n then nI n else nI n) = nI n := by split <;> rfl
  rw [hmin]
  have hcl : (nI n).toNatClampNeg = n := nI_clamp hn
  refine va_copyi hx hb (hml.trans hl.1.symm) hown (hts (.methodLink RX2 19 arraycopyName) (List.mem_of_getElem? (i := 6) rfl)) (hts (.native arraycopyName) (List.mem_of_getElem? (i := 7) rfl)) (hts (.static arraycopyName) (List.mem_of_getElem? (i := 8) rfl)) (hts (.initialized "java/lang/System") (List.mem_of_getElem? (i := 9) rfl)) hK hP hD hS q3 q1 0 0 e3 e1 rfl rfl rfl (by decide) (by decide) (nI_pos hn) (by rw [hcl]; show 0 + n ≤ n; omega) (by rw [hcl]; show 0 + n ≤ n; omega) (fun i _ => rfl) (Nat.le_of_ble_eq_true rfl) (by decide +kernel) dX2_takeOver_23 (fun H locs hP hD hS => ?_)
  exact eV hx hb hr hlk hP hS dX2_takeOver_26 (Nat.le_of_ble_eq_true rfl) (Nat.le_of_ble_eq_true rfl) (by rw [← ew, hcl]; rfl)
end
section
/-! the worlds, block by block: a well (wl), the rest of a WishWell (xr), a state of the reference (ms), its outer object (mo) -/
abbrev ai (cI : ClassId) (n : Nat) (f : Nat → Int32) : va_E := .inl (cI, n, .inl f)
def wl (cI : ClassId) (a : Nat → Nat) (G : Nat → Nat → Int32) (g : Nat → Int32) : va_W := [(a 0, .inr (6, [.ref (a 1), .ref (a 2), .ref (a 3), .ref (a 4), .int (g 0), .int (g 1), .int (g 2), .int (g 3), .int (g 4)])), (a 1, .inr (3, [.ref (a 5), .ref (a 6), .ref (a 7), .ref (a 8), .ref (a 9), .int (g 5)])), (a 2, .inr (7, [.ref (a 10), .ref (a 11), .ref (a 12), .ref (a 13), .ref (a 14), .int (g 6)])), (a 3, .inr (4, [.ref (a 15)])), (a 4, .inr (5, [.ref (a 16)])), (a 5, .inr (5, [.ref (a 17)])), (a 6, .inr (5, [.ref (a 18)])), (a 7, .inr (5, [.ref (a 19)])), (a 8, .inr (5, [.ref (a 20)])), (a 9, .inr (5, [.ref (a 21)])), (a 10, .inr (5, [.ref (a 22)])), (a 11, .inr (5, [.ref (a 23)])), (a 12, .inr (5, [.ref (a 24)])), (a 13, .inr (5, [.ref (a 25)])), (a 14, .inr (5, [.ref (a 26)])), (a 15, .inr (5, [.ref (a 27)])), (a 16, ai cI 7 (G 0)), (a 17, ai cI 6 (G 1)), (a 18, ai cI 6 (G 2)), (a 19, ai cI 6 (G 3)), (a 20, ai cI 6 (G 4)), (a 21, ai cI 6 (G 5)), (a 22, ai cI 24 (G 6)), (a 23, ai cI 24 (G 7)), (a 24, ai cI 24 (G 8)), (a 25, ai cI 24 (G 9)), (a 26, ai cI 24 (G 10)), (a 27, ai cI 30 (G 11))]
def xr (cI : ClassId) (a b x : Nat → Nat) (F : Nat → Int32) : va_W := [(x 0, .inr (8, [.ref (a 0), .ref (b 0), .ref (x 1)])), (x 1, .inr (5, [.ref (x 2)])), (x 2, ai cI 301 F)]
def ms (cI : ClassId) (q o : Nat → Nat) (T : Nat → Nat → Int32) (t : Nat → Int32) : va_W := [(q 0, .inr (9, [.int (t 0), .int (t 1), .int (t 2), .ref (q 1), .ref (q 2), .ref (q 3), .ref (q 4), .ref (o 0)])), (q 1, ai cI 30 (T 0)), (q 2, ai cI 6 (T 1)), (q 3, ai cI 24 (T 2)), (q 4, ai cI 24 (T 3))]
def mo (cI : ClassId) (o : Nat → Nat) (s0 u0 : Nat) (M : Nat → Nat → Int32) (m : Nat → Int32) : va_W := [(o 0, .inr (10, [.int (m 0), .int (m 1), .ref (o 1), .ref (o 2), .ref (o 3), .ref (o 4), .ref (o 5), .int (m 2), .ref (o 6), .ref (o 7), .ref (o 8), .int (m 3), .int (m 4), .ref s0, .ref u0])), (o 1, ai cI 6 (M 0)), (o 2, ai cI 6 (M 1)), (o 3, ai cI 7 (M 2)), (o 4, ai cI 6 (M 3)), (o 5, ai cI 6 (M 4)), (o 6, ai cI 24 (M 5)), (o 7, ai cI 24 (M 6)), (o 8, ai cI 24 (M 7))]
/-! a world holds in any order -/
theorem P_mem {D : va_G} {cl : List vw_C} {w w' : va_W} {H : Heap} (h : va_P D cl w H) (hs : ∀ q ∈ w', q ∈ w) : va_P D cl w' H := by
  intro k q hq
  obtain ⟨i, hi⟩ := List.getElem?_of_mem (hs q (List.mem_of_getElem? hq))
  exact h i q hi
theorem P_perm {D : va_G} {cl : List vw_C} {w w' : va_W} {H : Heap} (e : List.Perm w w') (h : va_P D cl w H) : va_P D cl w' H := P_mem h fun _ hq => e.mem_iff.mpr hq
theorem D_nodup {A : Nat → Prop} {w : va_W} : va_D A w ↔ ((w.map Prod.fst).Nodup ∧ ∀ q ∈ w, A q.1) := by
  constructor
  · intro h
    refine ⟨?_, fun q hq => ?_⟩
    · rw [List.nodup_iff_pairwise_ne, List.pairwise_iff_getElem]
      intro i j hi hj hij he
      rw [List.getElem_map, List.getElem_map] at he
      have hi' : i < w.length := by simpa using hi
      have hj' : j < w.length := by simpa using hj
      have := h.1 i j _ _ (List.getElem?_eq_getElem hi') (List.getElem?_eq_getElem hj') he
      omega
    · obtain ⟨i, hi⟩ := List.getElem?_of_mem hq
      exact h.2 i q hi
  · intro h
    refine ⟨fun i j p q hp hq e => ?_, fun k q hk => h.2 q (List.mem_of_getElem? hk)⟩
    have hn := List.pairwise_iff_getElem.mp (List.nodup_iff_pairwise_ne.mp h.1)
    obtain ⟨hi, rfl⟩ := List.getElem?_eq_some_iff.mp hp
    obtain ⟨hj, rfl⟩ := List.getElem?_eq_some_iff.mp hq
    rcases Nat.lt_trichotomy i j with c | c | c
    · exact absurd (by rw [List.getElem_map, List.getElem_map]; exact e) (hn i j (by simpa using hi) (by simpa using hj) c)
    · exact c
    · exact absurd (by rw [List.getElem_map, List.getElem_map]; exact e.symm) (hn j i (by simpa using hj) (by simpa using hi) c)
theorem D_perm {A : Nat → Prop} {w w' : va_W} (e : List.Perm w w') (h : va_D A w) : va_D A w' := by
  have h := D_nodup.mp h
  exact D_nodup.mpr ⟨(e.map Prod.fst).nodup_iff.mp h.1, fun q hq => h.2 q (e.mem_iff.mpr hq)⟩
theorem pm2 {α : Type} (p q r : List α) : List.Perm (p ++ (q ++ r)) (q ++ (p ++ r)) := by
  rw [← List.append_assoc, ← List.append_assoc]
  exact List.Perm.append_right r List.perm_append_comm
theorem pm3 {α : Type} (p q r t : List α) : List.Perm (p ++ (q ++ (r ++ t))) (r ++ (q ++ (p ++ t))) := (pm2 p q (r ++ t)).trans (((pm2 p r t).append_left q).trans (pm2 q r (p ++ t)))
theorem pmx3 {α : Type} (p q r t : List α) (x : α) : List.Perm ((p ++ (q ++ (r ++ t))) ++ [x]) (p ++ (q ++ (r ++ (x :: t)))) := by
  rw [List.append_assoc, List.append_assoc, List.append_assoc]
  exact (((List.perm_append_singleton x t).append_left r).append_left q).append_left p
/-! the ends of a walk's equation -/
theorem o1 {α : Type} {a a' : α} (h : some a = some a') : a = a' := Option.some.inj h
theorem o2 {α β : Type} {a a' : α} {b b' : β} (h : some (a, b) = some (a', b')) : a = a' ∧ b = b' := by cases h; exact ⟨rfl, rfl⟩
theorem o3 {α β γ : Type} {a a' : α} {b b' : β} {c c' : γ} (h : some (a, b, c) = some (a', b', c')) : a = a' ∧ b = b' ∧ c = c' := by cases h; exact ⟨rfl, rfl, rfl⟩
theorem o4 {α β γ δ : Type} {a a' : α} {b b' : β} {c c' : γ} {d d' : δ} (h : some (a, b, c, d) = some (a', b', c', d')) : a = a' ∧ b = b' ∧ c = c' ∧ d = d' := by cases h; exact ⟨rfl, rfl, rfl, rfl⟩
theorem o5 {α β γ δ ε : Type} {a a' : α} {b b' : β} {c c' : γ} {d d' : δ} {e e' : ε} (h : some (a, b, c, d, e) = some (a', b', c', d', e')) : a = a' ∧ b = b' ∧ c = c' ∧ d = d' ∧ e = e' := by cases h; exact ⟨rfl, rfl, rfl, rfl, rfl⟩
theorem lz_c {σ ρ : Type} {f : σ → Option (σ ⊕ ρ)} {n : Nat} {z : σ ⊕ ρ} {r : ρ} {s1 : σ} (h : some (Sum.inl s1) = some z) (hz : (∃ s', z = .inl s' ∧ lp f n s' = some r) ∨ z = .inr r) : lp f n s1 = some r := by
  cases h
  rcases hz with ⟨s', e, h⟩ | e
  · cases e; exact h
  · cases e
theorem lz_e {σ ρ : Type} {f : σ → Option (σ ⊕ ρ)} {n : Nat} {z : σ ⊕ ρ} {r r1 : ρ} (h : some (Sum.inr r1) = some z) (hz : (∃ s', z = .inl s' ∧ lp f n s' = some r) ∨ z = .inr r) : r1 = r := by
  cases h
  rcases hz with ⟨s', e, h⟩ | e
  · cases e
  · cases e; rfl
/-- a loop that may answer for the method: behind its end (inl), or answered (inr) -/
def se {τ α : Type} (z : τ ⊕ α) (k : τ → Option α) : Option α := match z with
  | .inl t => k t
  | .inr o => some o
theorem sw_n {x : Int32} (k : Int32) (z : Int) (hz : k.toInt = z) (h : ¬ x = k) : x.toInt ≠ z := fun e => h (Int32.toInt_inj.mp (e.trans hz.symm))
theorem nar0 : narrow .boolean (.int 0) = .int 0 := by decide
theorem nar1 : narrow .boolean (.int 1) = .int 1 := by decide
end
section
/-! WishWell$Layers: laid by wip/whole/gen.py -/
noncomputable def fX1_place (p0 : Int32) (p1 : Int32) : Int32 := if p0 < 0 then ((-1)) else (if 5 ≤ p0 then ((-1)) else (if p1 < 0 then ((-1)) else (if 6 ≤ p1 then ((-1)) else ((p0 * 6) + p1))))
set_option maxHeartbeats 4000000 in
set_option maxRecDepth 100000 in
theorem c_X1_place (l : Launch) (D : va_G) (cI cJ : ClassId) (p0 : Int32) (p1 : Int32) (w : va_W) (r' : Int32) (h : fX1_place p0 p1 = r') : Ci l yX1_place wsX1_place ({ frames := 0, cells := 0, slots := 0, locals := 0 } : Room) D cI cJ ([.int p0, .int p1] : List Value) (w) r' (w) := by
  refine Ci.mk (cc := cX1_place) (maxL := 3) (ret := (some .int)) (by decide) rfl (Nat.le_of_ble_eq_true rfl) ?_
  intro p e s m below meth c A ls B hr hlk hK hN hA hP hD hl
  obtain ⟨hx, hb, hml, hown, hts⟩ := id B
  have hS : va_S A s.heap s.heap [] := va_S.rf
  have hl : lv_has ls 3 [(0, .int p0), (1, .int p1)] := hl
  unfold fX1_place at h
  refine lv_iload_n hx hb dX1_place_0 rfl (lv_at hl 0 rfl) ?_
  refine lv_if_lt (tgt := 23) hx hb dX1_place_1 (by decide) (fun c_1 => ?_) (fun c_1 => ?_)
  · have h := ip_ h c_1
    refine lv_iconst (v := 0) hx hb dX1_place_23 (by decide) ?_
    refine lv_istore_n (lv' := [(2, .int 0), (0, .int p0), (1, .int p1)]) hx hb dX1_place_24 rfl hl (by decide) rfl (fun ls hl => ?_)
    refine lv_iload_n hx hb dX1_place_25 rfl (lv_at hl 0 rfl) ?_
    refine lv_if_eq (tgt := 38) hx hb dX1_place_26 (by decide) (fun _ => ?_) (fun c_2 => absurd (by decide) c_2)
    refine lv_iconst (v := (-1)) hx hb dX1_place_38 (by decide) ?_
    exact eI hx hb hr hlk hP hS dX1_place_39 (Nat.le_of_ble_eq_true rfl) (Nat.le_of_ble_eq_true rfl) h rfl
  · have h := in_ h c_1
    refine lv_iload_n hx hb dX1_place_4 rfl (lv_at hl 0 rfl) ?_
    refine lv_iconst (v := 5) hx hb dX1_place_5 (by decide) ?_
    refine lv_icmp_ge (tgt := 23) hx hb dX1_place_6 (by decide) (fun c_3 => ?_) (fun c_3 => ?_)
    · have h := ip_ h c_3
      refine lv_iconst (v := 0) hx hb dX1_place_23 (by decide) ?_
      refine lv_istore_n (lv' := [(2, .int 0), (0, .int p0), (1, .int p1)]) hx hb dX1_place_24 rfl hl (by decide) rfl (fun ls hl => ?_)
      refine lv_iload_n hx hb dX1_place_25 rfl (lv_at hl 0 rfl) ?_
      refine lv_if_eq (tgt := 38) hx hb dX1_place_26 (by decide) (fun _ => ?_) (fun c_4 => absurd (by decide) c_4)
      refine lv_iconst (v := (-1)) hx hb dX1_place_38 (by decide) ?_
      exact eI hx hb hr hlk hP hS dX1_place_39 (Nat.le_of_ble_eq_true rfl) (Nat.le_of_ble_eq_true rfl) h rfl
    · have h := in_ h c_3
      refine lv_iload_n hx hb dX1_place_9 rfl (lv_at hl 1 rfl) ?_
      refine lv_if_lt (tgt := 23) hx hb dX1_place_10 (by decide) (fun c_5 => ?_) (fun c_5 => ?_)
      · have h := ip_ h c_5
        refine lv_iconst (v := 0) hx hb dX1_place_23 (by decide) ?_
        refine lv_istore_n (lv' := [(2, .int 0), (0, .int p0), (1, .int p1)]) hx hb dX1_place_24 rfl hl (by decide) rfl (fun ls hl => ?_)
        refine lv_iload_n hx hb dX1_place_25 rfl (lv_at hl 0 rfl) ?_
        refine lv_if_eq (tgt := 38) hx hb dX1_place_26 (by decide) (fun _ => ?_) (fun c_6 => absurd (by decide) c_6)
        refine lv_iconst (v := (-1)) hx hb dX1_place_38 (by decide) ?_
        exact eI hx hb hr hlk hP hS dX1_place_39 (Nat.le_of_ble_eq_true rfl) (Nat.le_of_ble_eq_true rfl) h rfl
      · have h := in_ h c_5
        refine lv_iload_n hx hb dX1_place_13 rfl (lv_at hl 1 rfl) ?_
        refine lv_bipush (v := 6) hx hb dX1_place_14 (by decide) ?_
        refine lv_icmp_ge (tgt := 23) hx hb dX1_place_16 (by decide) (fun c_7 => ?_) (fun c_7 => ?_)
        · have h := ip_ h c_7
          refine lv_iconst (v := 0) hx hb dX1_place_23 (by decide) ?_
          refine lv_istore_n (lv' := [(2, .int 0), (0, .int p0), (1, .int p1)]) hx hb dX1_place_24 rfl hl (by decide) rfl (fun ls hl => ?_)
          refine lv_iload_n hx hb dX1_place_25 rfl (lv_at hl 0 rfl) ?_
          refine lv_if_eq (tgt := 38) hx hb dX1_place_26 (by decide) (fun _ => ?_) (fun c_8 => absurd (by decide) c_8)
          refine lv_iconst (v := (-1)) hx hb dX1_place_38 (by decide) ?_
          exact eI hx hb hr hlk hP hS dX1_place_39 (Nat.le_of_ble_eq_true rfl) (Nat.le_of_ble_eq_true rfl) h rfl
        · have h := in_ h c_7
          refine lv_iconst (v := 1) hx hb dX1_place_19 (by decide) ?_
          refine lv_goto (tgt := 24) hx hb dX1_place_20 (by decide) ?_
          refine lv_istore_n (lv' := [(2, .int 1), (0, .int p0), (1, .int p1)]) hx hb dX1_place_24 rfl hl (by decide) rfl (fun ls hl => ?_)
          refine lv_iload_n hx hb dX1_place_25 rfl (lv_at hl 0 rfl) ?_
          refine lv_if_eq (tgt := 38) hx hb dX1_place_26 (by decide) (fun c_9 => absurd c_9 (by decide)) (fun _ => ?_)
          refine lv_iload_n hx hb dX1_place_29 rfl (lv_at hl 1 rfl) ?_
          refine lv_bipush (v := 6) hx hb dX1_place_30 (by decide) ?_
          refine lv_imul hx hb dX1_place_32 ?_
          refine lv_iload_n hx hb dX1_place_33 rfl (lv_at hl 2 rfl) ?_
          refine lv_iadd hx hb dX1_place_34 ?_
          refine lv_goto (tgt := 39) hx hb dX1_place_35 (by decide) ?_
          exact eI hx hb hr hlk hP hS dX1_place_39 (Nat.le_of_ble_eq_true rfl) (Nat.le_of_ble_eq_true rfl) h rfl
noncomputable def fX1_at (G : Nat → Nat → Int32) (p0 : Int32) (p1 : Int32) : Int32 := rAt 30 (G 11) (fX1_place p0 p1)
set_option maxHeartbeats 4000000 in
set_option maxRecDepth 100000 in
theorem c_X1_at (l : Launch) (D : va_G) (cI cJ : ClassId) (a : Nat → Nat) (G : Nat → Nat → Int32) (g : Nat → Int32) (p0 : Int32) (p1 : Int32) (rs : va_W) (r' : Int32) (h : fX1_at G p0 p1 = r') : Ci l yX1_at wsX1_at ({ frames := 1, cells := 0, slots := 0, locals := 22 } : Room) D cI cJ ([.ref (a 3), .int p0, .int p1] : List Value) (wl cI a G g ++ rs) r' (wl cI a G g ++ rs) := by
  refine Ci.mk (cc := cX1_at) (maxL := 3) (ret := (some .int)) (by decide) rfl (Nat.le_of_ble_eq_true rfl) ?_
  intro p e s m below meth c A ls B hr hlk hK hN hA hP hD hl
  obtain ⟨hx, hb, hml, hown, hts⟩ := id B
  have hi_X1 : ∀ w ∈ wsX10, w ∈ wsX1_at := fun _ h => List.mem_cons_of_mem _ (List.mem_append_left _ (List.mem_append_left _ (List.mem_append_right _ (h))))
  have hS : va_S A s.heap s.heap [] := va_S.rf
  have hl : lv_has ls 3 [(0, .ref (a 3)), (1, .int p0), (2, .int p1)] := hl
  unfold fX1_at at h
  refine lv_aload_n hx hb dX1_at_0 rfl (lv_at hl 0 rfl) ?_
  refine va_get (ci := 4) (v := .ref (a 15)) (C := RX1) (T := TX1) (N := 1) hx hb hts hi_X1 hown hK hP 3 rfl rfl 0 (by decide) (hts (.fieldLink RX1 14 "WishWell$Layers" "cells" "LWishWell$Row;") (List.mem_of_getElem? (i := 1) rfl)) (fun _ h9 => h9) rfl dX1_at_1 ?_
  refine lv_iload_n hx hb dX1_at_4 rfl (lv_at hl 1 rfl) ?_
  refine lv_iload_n hx hb dX1_at_5 rfl (lv_at hl 2 rfl) ?_
  refine kSi (As := [.int p0, .int p1]) (rest := [.ref (a 15)]) B hK hN hP hD hS hA (c_X1_place l D cI cJ  p0 p1 (wl cI a G g ++ rs) _ rfl) (va_cwS 2 hts gX1_at_X1_place rfl rfl rfl (by decide +kernel) ⟨(Nat.le_of_ble_eq_true rfl), (Nat.le_of_ble_eq_true rfl)⟩) rfl hl.1 rfl (Nat.le_of_ble_eq_true rfl) dX1_at_6 ⟨(Nat.le_of_ble_eq_true rfl), (Nat.le_of_ble_eq_true rfl)⟩ rfl (fun H locs hP hD hS => ?_)
  refine kVi (As := [.int (fX1_place p0 p1)]) (rest := []) B hK hN hP hD hS hA (c_X2_at l D cI cJ _ _ _ 30 (G 11) 15 27 rfl rfl (by decide) (fX1_place p0 p1)) (cwV 1 hts gX1_at_X2_at rfl rfl rfl (by decide +kernel) ⟨(Nat.le_of_ble_eq_true rfl), (Nat.le_of_ble_eq_true rfl)⟩) 5 15 rfl rfl rfl hl.1 rfl (Nat.le_of_ble_eq_true rfl) dX1_at_9 ⟨(Nat.le_of_ble_eq_true rfl), (Nat.le_of_ble_eq_true rfl)⟩ rfl (fun H locs hP hD hS => ?_)
  exact eI hx hb hr hlk hP hS dX1_at_12 (Nat.le_of_ble_eq_true rfl) (Nat.le_of_ble_eq_true rfl) h rfl
noncomputable def fX1_add (G : Nat → Nat → Int32) (p0 : Int32) (p1 : Int32) (p2 : Int32) : Option ((Nat → Nat → Int32)) := lt_ (uG G 11 (rAdd 30 (G 11) (fX1_place p0 p1) p2)) (fun G_1 => some G_1)
set_option maxHeartbeats 4000000 in
set_option maxRecDepth 100000 in
theorem c_X1_add (l : Launch) (D : va_G) (cI cJ : ClassId) (a : Nat → Nat) (G : Nat → Nat → Int32) (g : Nat → Int32) (p0 : Int32) (p1 : Int32) (p2 : Int32) (G' : Nat → Nat → Int32) (rs : va_W) (h : fX1_add G p0 p1 p2 = some G') : Cv l yX1_add wsX1_add ({ frames := 1, cells := 0, slots := 0, locals := 22 } : Room) D cI cJ ([.ref (a 3), .int p0, .int p1, .int p2] : List Value) (wl cI a G g ++ rs) (wl cI a G' g ++ rs) := by
  refine Cv.mk (cc := cX1_add) (maxL := 4) (ret := none) (by decide) rfl (Nat.le_of_ble_eq_true rfl) ?_
  intro p e s m below meth c A ls B hr hlk hK hN hA hP hD hl
  obtain ⟨hx, hb, hml, hown, hts⟩ := id B
  have hi_X1 : ∀ w ∈ wsX10, w ∈ wsX1_add := fun _ h => List.mem_cons_of_mem _ (List.mem_append_left _ (List.mem_append_left _ (List.mem_append_right _ (h))))
  have hS : va_S A s.heap s.heap [] := va_S.rf
  have hl : lv_has ls 4 [(0, .ref (a 3)), (1, .int p0), (2, .int p1), (3, .int p2)] := hl
  unfold fX1_add at h
  refine lv_aload_n hx hb dX1_add_0 rfl (lv_at hl 0 rfl) ?_
  refine va_get (ci := 4) (v := .ref (a 15)) (C := RX1) (T := TX1) (N := 1) hx hb hts hi_X1 hown hK hP 3 rfl rfl 0 (by decide) (hts (.fieldLink RX1 14 "WishWell$Layers" "cells" "LWishWell$Row;") (List.mem_of_getElem? (i := 1) rfl)) (fun _ h9 => h9) rfl dX1_add_1 ?_
  refine lv_iload_n hx hb dX1_add_4 rfl (lv_at hl 1 rfl) ?_
  refine lv_iload_n hx hb dX1_add_5 rfl (lv_at hl 2 rfl) ?_
  refine kSi (As := [.int p0, .int p1]) (rest := [.ref (a 15)]) B hK hN hP hD hS hA (c_X1_place l D cI cJ  p0 p1 (wl cI a G g ++ rs) _ rfl) (va_cwS 2 hts gX1_add_X1_place rfl rfl rfl (by decide +kernel) ⟨(Nat.le_of_ble_eq_true rfl), (Nat.le_of_ble_eq_true rfl)⟩) rfl hl.1 rfl (Nat.le_of_ble_eq_true rfl) dX1_add_6 ⟨(Nat.le_of_ble_eq_true rfl), (Nat.le_of_ble_eq_true rfl)⟩ rfl (fun H locs hP hD hS => ?_)
  refine lv_iload_n hx hb dX1_add_9 rfl (lv_at hl 3 rfl) ?_
  refine kVv (As := [.int (fX1_place p0 p1), .int p2]) (rest := []) B hK hN hP hD hS hA (c_X2_add l D cI cJ _ (wl cI a (uG G 11 (rAdd 30 (G 11) (fX1_place p0 p1) p2)) g ++ rs) _ _ 30 (G 11) 15 27 rfl rfl (by decide) (fX1_place p0 p1) p2 rfl rfl) (cwV 2 hts gX1_add_X2_add rfl rfl rfl (by decide +kernel) ⟨(Nat.le_of_ble_eq_true rfl), (Nat.le_of_ble_eq_true rfl)⟩) 5 15 rfl rfl rfl hl.1 rfl (Nat.le_of_ble_eq_true rfl) dX1_add_10 ⟨(Nat.le_of_ble_eq_true rfl), (Nat.le_of_ble_eq_true rfl)⟩ rfl (fun H locs hP hD hS => ?_)
  obtain ⟨G_1, eG_1, h⟩ := lt_I h
  have hP : va_P D vwCl (wl cI a G_1 g ++ rs) H := by rw [eG_1]; exact hP
  have hD : va_D A (wl cI a G_1 g ++ rs) := by rw [eG_1]; exact hD
  have h0 := o1 h
  exact eV hx hb hr hlk hP hS dX1_add_13 (Nat.le_of_ble_eq_true rfl) (Nat.le_of_ble_eq_true rfl) (by rw [h0])
noncomputable def fX1_coinsIn_B4 (G : Nat → Nat → Int32) (p0 : Int32) (x2_1 : Int32) (x3_1 : Int32)  : Option ((Int32 × Int32) ⊕ (Int32 × Int32)) := if 6 ≤ x3_1 then (some (.inr (x2_1, x3_1))) else (lt_ (x2_1 + (fX1_at G p0 x3_1)) (fun y2_3 => some (.inl (y2_3, x3_1 + 1))))
noncomputable def fX1_coinsIn (G : Nat → Nat → Int32) (p0 : Int32) : Option (Int32) := b2 (lp (fun s => fX1_coinsIn_B4 G p0 s.1 s.2) 7 (0, 0)) (fun z2_1 z3_1 => some z2_1)
set_option maxHeartbeats 4000000 in
set_option maxRecDepth 100000 in
theorem c_X1_coinsIn (l : Launch) (D : va_G) (cI cJ : ClassId) (a : Nat → Nat) (G : Nat → Nat → Int32) (g : Nat → Int32) (p0 : Int32) (r' : Int32) (rs : va_W) (h : fX1_coinsIn G p0 = some r') : Ci l yX1_coinsIn wsX1_coinsIn ({ frames := 2, cells := 0, slots := 0, locals := 44 } : Room) D cI cJ ([.ref (a 3), .int p0] : List Value) (wl cI a G g ++ rs) r' (wl cI a G g ++ rs) := by
  refine Ci.mk (cc := cX1_coinsIn) (maxL := 4) (ret := (some .int)) (by decide) rfl (Nat.le_of_ble_eq_true rfl) ?_
  intro p e s m below meth c A ls B hr hlk hK hN hA hP hD hl
  obtain ⟨hx, hb, hml, hown, hts⟩ := id B
  have hS : va_S A s.heap s.heap [] := va_S.rf
  have hl : lv_has ls 4 [(0, .ref (a 3)), (1, .int p0)] := hl
  unfold fX1_coinsIn at h
  refine lv_iconst (v := 0) hx hb dX1_coinsIn_0 (by decide) ?_
  refine lv_istore_n (lv' := [(2, .int 0), (0, .ref (a 3)), (1, .int p0)]) hx hb dX1_coinsIn_1 rfl hl (by decide) rfl (fun ls hl => ?_)
  refine lv_iconst (v := 0) hx hb dX1_coinsIn_2 (by decide) ?_
  refine lv_istore_n (lv' := [(3, .int 0), (2, .int 0), (0, .ref (a 3)), (1, .int p0)]) hx hb dX1_coinsIn_3 rfl hl (by decide) rfl (fun ls hl => ?_)
  have L4_1 : ∀ (n : Nat) (x2_1 : Int32) (x3_1 : Int32)  (z2_1 : Int32) (z3_1 : Int32)  (_ : lp (fun s => fX1_coinsIn_B4 G p0 s.1 s.2) n (x2_1, x3_1) = some (z2_1, z3_1)) (_ : ∀ (H : Heap) (locs : List Loc) (ls : Array Slot), va_P D vwCl (wl cI a G g ++ rs) H → va_D A (wl cI a G g ++ rs) → va_S A s.heap H locs → lv_has ls 4 [(0, .ref (a 3)), (1, .int p0), (2, .int z2_1), (3, .int z3_1)] → W p l e (headSpec wsX1_coinsIn ({ frames := 2, cells := 0, slots := 0, locals := 44 } : Room)).room s m ([.ref (a 3), .int p0] : List Value).toArray below meth c H locs 0 0 (QI below D (wl cI a G g ++ rs) r' ([.ref (a 3), .int p0] : List Value).toArray s 0 0 A) (F0 m 25 ls [])) (H : Heap) (locs : List Loc) (ls : Array Slot), va_P D vwCl (wl cI a G g ++ rs) H → va_D A (wl cI a G g ++ rs) → va_S A s.heap H locs → lv_has ls 4 [(0, .ref (a 3)), (1, .int p0), (2, .int x2_1), (3, .int x3_1)] → W p l e (headSpec wsX1_coinsIn ({ frames := 2, cells := 0, slots := 0, locals := 44 } : Room)).room s m ([.ref (a 3), .int p0] : List Value).toArray below meth c H locs 0 0 (QI below D (wl cI a G g ++ rs) r' ([.ref (a 3), .int p0] : List Value).toArray s 0 0 A) (F0 m 4 ls []) := by
    intro n
    induction n with
    | zero => intro x2_1 x3_1 z2_1 z3_1 h; exact (lp_0 h).elim
    | succ n ih =>
      intro x2_1 x3_1 z2_1 z3_1 h kk H locs ls hP hD hS hl
      obtain ⟨z, h, hz⟩ := lp_walk h
      have h : fX1_coinsIn_B4 G p0 x2_1 x3_1 = some z := h
      unfold fX1_coinsIn_B4 at h
      refine lv_iload_n hx hb dX1_coinsIn_4 rfl (lv_at hl 3 rfl) ?_
      refine lv_bipush (v := 6) hx hb dX1_coinsIn_5 (by decide) ?_
      refine lv_icmp_ge (tgt := 25) hx hb dX1_coinsIn_7 (by decide) (fun c_2 => ?_) (fun c_2 => ?_)
      · have h := ip_ h c_2
        cases lz_e h hz
        exact kk _ _ _ hP hD hS (lv_sub hl [0, 1, 2, 3] rfl)
      · have h := in_ h c_2
        refine lv_iload_n hx hb dX1_coinsIn_10 rfl (lv_at hl 2 rfl) ?_
        refine lv_aload_n hx hb dX1_coinsIn_11 rfl (lv_at hl 0 rfl) ?_
        refine lv_iload_n hx hb dX1_coinsIn_12 rfl (lv_at hl 1 rfl) ?_
        refine lv_iload_n hx hb dX1_coinsIn_13 rfl (lv_at hl 3 rfl) ?_
        refine kVi (As := [.int p0, .int x3_1]) (rest := [.int x2_1]) B hK hN hP hD hS hA (c_X1_at l D cI cJ a G g p0 x3_1 rs _ rfl) (cwV 2 hts gX1_coinsIn_X1_at rfl rfl rfl (by decide +kernel) ⟨(Nat.le_of_ble_eq_true rfl), (Nat.le_of_ble_eq_true rfl)⟩) 4 3 rfl rfl rfl hl.1 rfl (Nat.le_of_ble_eq_true rfl) dX1_coinsIn_14 ⟨(Nat.le_of_ble_eq_true rfl), (Nat.le_of_ble_eq_true rfl)⟩ rfl (fun H locs hP hD hS => ?_)
        refine lv_iadd hx hb dX1_coinsIn_17 ?_
        obtain ⟨y2_3, ey2_3, h⟩ := lt_I h
        rw [← ey2_3]
        refine lv_istore_n (lv' := [(2, .int y2_3), (0, .ref (a 3)), (1, .int p0), (3, .int x3_1)]) hx hb dX1_coinsIn_18 rfl hl (by decide) rfl (fun ls hl => ?_)
        refine lv_iinc (v := x3_1 + 1) (lv' := [(3, .int (x3_1 + 1)), (2, .int y2_3), (0, .ref (a 3)), (1, .int p0)]) hx hb dX1_coinsIn_19 hl (k := 3) rfl rfl (by decide) rfl (fun ls hl => ?_)
        refine lv_goto (tgt := 4) hx hb dX1_coinsIn_22 (by decide) ?_
        exact ih y2_3 (x3_1 + 1) _ _ (lz_c h hz) kk _ _ _ hP hD hS (lv_sub hl [2, 3, 1, 0] rfl)
  obtain ⟨z2_1, z3_1, hl_1, h⟩ := b2_I h
  refine L4_1 7 0 0  z2_1 z3_1 hl_1 (fun H locs ls hP hD hS hl => ?_) _ _ _ hP hD hS (lv_sub hl [2, 3, 1, 0] rfl)
  refine lv_iload_n hx hb dX1_coinsIn_25 rfl (lv_at hl 2 rfl) ?_
  have h0 := o1 h
  exact eI hx hb hr hlk hP hS dX1_coinsIn_26 (Nat.le_of_ble_eq_true rfl) (Nat.le_of_ble_eq_true rfl) h0 rfl
noncomputable def fX1_coinsOf_B4 (G : Nat → Nat → Int32) (p0 : Int32) (x2_1 : Int32) (x3_1 : Int32)  : Option ((Int32 × Int32) ⊕ (Int32 × Int32)) := if 5 ≤ x3_1 then (some (.inr (x2_1, x3_1))) else (lt_ (x2_1 + (fX1_at G x3_1 p0)) (fun y2_3 => some (.inl (y2_3, x3_1 + 1))))
noncomputable def fX1_coinsOf (G : Nat → Nat → Int32) (p0 : Int32) : Option (Int32) := b2 (lp (fun s => fX1_coinsOf_B4 G p0 s.1 s.2) 6 (0, 0)) (fun z2_1 z3_1 => some z2_1)
set_option maxHeartbeats 4000000 in
set_option maxRecDepth 100000 in
theorem c_X1_coinsOf (l : Launch) (D : va_G) (cI cJ : ClassId) (a : Nat → Nat) (G : Nat → Nat → Int32) (g : Nat → Int32) (p0 : Int32) (r' : Int32) (rs : va_W) (h : fX1_coinsOf G p0 = some r') : Ci l yX1_coinsOf wsX1_coinsOf ({ frames := 2, cells := 0, slots := 0, locals := 44 } : Room) D cI cJ ([.ref (a 3), .int p0] : List Value) (wl cI a G g ++ rs) r' (wl cI a G g ++ rs) := by
  refine Ci.mk (cc := cX1_coinsOf) (maxL := 4) (ret := (some .int)) (by decide) rfl (Nat.le_of_ble_eq_true rfl) ?_
  intro p e s m below meth c A ls B hr hlk hK hN hA hP hD hl
  obtain ⟨hx, hb, hml, hown, hts⟩ := id B
  have hS : va_S A s.heap s.heap [] := va_S.rf
  have hl : lv_has ls 4 [(0, .ref (a 3)), (1, .int p0)] := hl
  unfold fX1_coinsOf at h
  refine lv_iconst (v := 0) hx hb dX1_coinsOf_0 (by decide) ?_
  refine lv_istore_n (lv' := [(2, .int 0), (0, .ref (a 3)), (1, .int p0)]) hx hb dX1_coinsOf_1 rfl hl (by decide) rfl (fun ls hl => ?_)
  refine lv_iconst (v := 0) hx hb dX1_coinsOf_2 (by decide) ?_
  refine lv_istore_n (lv' := [(3, .int 0), (2, .int 0), (0, .ref (a 3)), (1, .int p0)]) hx hb dX1_coinsOf_3 rfl hl (by decide) rfl (fun ls hl => ?_)
  have L4_1 : ∀ (n : Nat) (x2_1 : Int32) (x3_1 : Int32)  (z2_1 : Int32) (z3_1 : Int32)  (_ : lp (fun s => fX1_coinsOf_B4 G p0 s.1 s.2) n (x2_1, x3_1) = some (z2_1, z3_1)) (_ : ∀ (H : Heap) (locs : List Loc) (ls : Array Slot), va_P D vwCl (wl cI a G g ++ rs) H → va_D A (wl cI a G g ++ rs) → va_S A s.heap H locs → lv_has ls 4 [(0, .ref (a 3)), (1, .int p0), (2, .int z2_1), (3, .int z3_1)] → W p l e (headSpec wsX1_coinsOf ({ frames := 2, cells := 0, slots := 0, locals := 44 } : Room)).room s m ([.ref (a 3), .int p0] : List Value).toArray below meth c H locs 0 0 (QI below D (wl cI a G g ++ rs) r' ([.ref (a 3), .int p0] : List Value).toArray s 0 0 A) (F0 m 24 ls [])) (H : Heap) (locs : List Loc) (ls : Array Slot), va_P D vwCl (wl cI a G g ++ rs) H → va_D A (wl cI a G g ++ rs) → va_S A s.heap H locs → lv_has ls 4 [(0, .ref (a 3)), (1, .int p0), (2, .int x2_1), (3, .int x3_1)] → W p l e (headSpec wsX1_coinsOf ({ frames := 2, cells := 0, slots := 0, locals := 44 } : Room)).room s m ([.ref (a 3), .int p0] : List Value).toArray below meth c H locs 0 0 (QI below D (wl cI a G g ++ rs) r' ([.ref (a 3), .int p0] : List Value).toArray s 0 0 A) (F0 m 4 ls []) := by
    intro n
    induction n with
    | zero => intro x2_1 x3_1 z2_1 z3_1 h; exact (lp_0 h).elim
    | succ n ih =>
      intro x2_1 x3_1 z2_1 z3_1 h kk H locs ls hP hD hS hl
      obtain ⟨z, h, hz⟩ := lp_walk h
      have h : fX1_coinsOf_B4 G p0 x2_1 x3_1 = some z := h
      unfold fX1_coinsOf_B4 at h
      refine lv_iload_n hx hb dX1_coinsOf_4 rfl (lv_at hl 3 rfl) ?_
      refine lv_iconst (v := 5) hx hb dX1_coinsOf_5 (by decide) ?_
      refine lv_icmp_ge (tgt := 24) hx hb dX1_coinsOf_6 (by decide) (fun c_2 => ?_) (fun c_2 => ?_)
      · have h := ip_ h c_2
        cases lz_e h hz
        exact kk _ _ _ hP hD hS (lv_sub hl [0, 1, 2, 3] rfl)
      · have h := in_ h c_2
        refine lv_iload_n hx hb dX1_coinsOf_9 rfl (lv_at hl 2 rfl) ?_
        refine lv_aload_n hx hb dX1_coinsOf_10 rfl (lv_at hl 0 rfl) ?_
        refine lv_iload_n hx hb dX1_coinsOf_11 rfl (lv_at hl 3 rfl) ?_
        refine lv_iload_n hx hb dX1_coinsOf_12 rfl (lv_at hl 1 rfl) ?_
        refine kVi (As := [.int x3_1, .int p0]) (rest := [.int x2_1]) B hK hN hP hD hS hA (c_X1_at l D cI cJ a G g x3_1 p0 rs _ rfl) (cwV 2 hts gX1_coinsOf_X1_at rfl rfl rfl (by decide +kernel) ⟨(Nat.le_of_ble_eq_true rfl), (Nat.le_of_ble_eq_true rfl)⟩) 4 3 rfl rfl rfl hl.1 rfl (Nat.le_of_ble_eq_true rfl) dX1_coinsOf_13 ⟨(Nat.le_of_ble_eq_true rfl), (Nat.le_of_ble_eq_true rfl)⟩ rfl (fun H locs hP hD hS => ?_)
        refine lv_iadd hx hb dX1_coinsOf_16 ?_
        obtain ⟨y2_3, ey2_3, h⟩ := lt_I h
        rw [← ey2_3]
        refine lv_istore_n (lv' := [(2, .int y2_3), (0, .ref (a 3)), (1, .int p0), (3, .int x3_1)]) hx hb dX1_coinsOf_17 rfl hl (by decide) rfl (fun ls hl => ?_)
        refine lv_iinc (v := x3_1 + 1) (lv' := [(3, .int (x3_1 + 1)), (2, .int y2_3), (0, .ref (a 3)), (1, .int p0)]) hx hb dX1_coinsOf_18 hl (k := 3) rfl rfl (by decide) rfl (fun ls hl => ?_)
        refine lv_goto (tgt := 4) hx hb dX1_coinsOf_21 (by decide) ?_
        exact ih y2_3 (x3_1 + 1) _ _ (lz_c h hz) kk _ _ _ hP hD hS (lv_sub hl [2, 3, 1, 0] rfl)
  obtain ⟨z2_1, z3_1, hl_1, h⟩ := b2_I h
  refine L4_1 6 0 0  z2_1 z3_1 hl_1 (fun H locs ls hP hD hS hl => ?_) _ _ _ hP hD hS (lv_sub hl [2, 3, 1, 0] rfl)
  refine lv_iload_n hx hb dX1_coinsOf_24 rfl (lv_at hl 2 rfl) ?_
  have h0 := o1 h
  exact eI hx hb hr hlk hP hS dX1_coinsOf_25 (Nat.le_of_ble_eq_true rfl) (Nat.le_of_ble_eq_true rfl) h0 rfl
noncomputable def fX1_uppermostOf_B2 (G : Nat → Nat → Int32) (p0 : Int32) (x2_1 : Int32)  : Option ((Int32) ⊕ ((Int32) ⊕ (Int32))) := if 5 ≤ x2_1 then (some (.inr (.inl (x2_1)))) else (if (fX1_at G x2_1 p0) ≤ 0 then (some (.inl (x2_1 + 1))) else (some (.inr (.inr x2_1))))
noncomputable def fX1_uppermostOf (G : Nat → Nat → Int32) (p0 : Int32) : Option (Int32) := ((lp (fun s => fX1_uppermostOf_B2 G p0 s) 6 (0))).bind (fun zz_1 => se zz_1 (fun t_1 => some (-1)))
set_option maxHeartbeats 4000000 in
set_option maxRecDepth 100000 in
theorem c_X1_uppermostOf (l : Launch) (D : va_G) (cI cJ : ClassId) (a : Nat → Nat) (G : Nat → Nat → Int32) (g : Nat → Int32) (p0 : Int32) (r' : Int32) (rs : va_W) (h : fX1_uppermostOf G p0 = some r') : Ci l yX1_uppermostOf wsX1_uppermostOf ({ frames := 2, cells := 0, slots := 0, locals := 44 } : Room) D cI cJ ([.ref (a 3), .int p0] : List Value) (wl cI a G g ++ rs) r' (wl cI a G g ++ rs) := by
  refine Ci.mk (cc := cX1_uppermostOf) (maxL := 3) (ret := (some .int)) (by decide) rfl (Nat.le_of_ble_eq_true rfl) ?_
  intro p e s m below meth c A ls B hr hlk hK hN hA hP hD hl
  obtain ⟨hx, hb, hml, hown, hts⟩ := id B
  have hS : va_S A s.heap s.heap [] := va_S.rf
  have hl : lv_has ls 3 [(0, .ref (a 3)), (1, .int p0)] := hl
  unfold fX1_uppermostOf at h
  refine lv_iconst (v := 0) hx hb dX1_uppermostOf_0 (by decide) ?_
  refine lv_istore_n (lv' := [(2, .int 0), (0, .ref (a 3)), (1, .int p0)]) hx hb dX1_uppermostOf_1 rfl hl (by decide) rfl (fun ls hl => ?_)
  have L2_1 : ∀ (n : Nat) (x2_1 : Int32)  (zz : (Int32) ⊕ (Int32)) (_ : lp (fun s => fX1_uppermostOf_B2 G p0 s) n x2_1 = some zz) (_ : ∀ (z2_1 : Int32) , zz = .inl z2_1 → ∀ (H : Heap) (locs : List Loc) (ls : Array Slot), va_P D vwCl (wl cI a G g ++ rs) H → va_D A (wl cI a G g ++ rs) → va_S A s.heap H locs → lv_has ls 3 [(0, .ref (a 3)), (1, .int p0), (2, .int z2_1)] → W p l e (headSpec wsX1_uppermostOf ({ frames := 2, cells := 0, slots := 0, locals := 44 } : Room)).room s m ([.ref (a 3), .int p0] : List Value).toArray below meth c H locs 0 0 (QI below D (wl cI a G g ++ rs) r' ([.ref (a 3), .int p0] : List Value).toArray s 0 0 A) (F0 m 24 ls [])) (_ : ∀ o, zz = .inr o → o = r') (H : Heap) (locs : List Loc) (ls : Array Slot), va_P D vwCl (wl cI a G g ++ rs) H → va_D A (wl cI a G g ++ rs) → va_S A s.heap H locs → lv_has ls 3 [(0, .ref (a 3)), (1, .int p0), (2, .int x2_1)] → W p l e (headSpec wsX1_uppermostOf ({ frames := 2, cells := 0, slots := 0, locals := 44 } : Room)).room s m ([.ref (a 3), .int p0] : List Value).toArray below meth c H locs 0 0 (QI below D (wl cI a G g ++ rs) r' ([.ref (a 3), .int p0] : List Value).toArray s 0 0 A) (F0 m 2 ls []) := by
    intro n
    induction n with
    | zero => intro x2_1 zz h; exact (lp_0 h).elim
    | succ n ih =>
      intro x2_1 zz h kk kr H locs ls hP hD hS hl
      obtain ⟨z, h, hz⟩ := lp_walk h
      have h : fX1_uppermostOf_B2 G p0 x2_1 = some z := h
      unfold fX1_uppermostOf_B2 at h
      refine lv_iload_n hx hb dX1_uppermostOf_2 rfl (lv_at hl 2 rfl) ?_
      refine lv_iconst (v := 5) hx hb dX1_uppermostOf_3 (by decide) ?_
      refine lv_icmp_ge (tgt := 24) hx hb dX1_uppermostOf_4 (by decide) (fun c_2 => ?_) (fun c_2 => ?_)
      · have h := ip_ h c_2
        cases lz_e h hz
        exact kk _ rfl _ _ _ hP hD hS (lv_sub hl [0, 1, 2] rfl)
      · have h := in_ h c_2
        refine lv_aload_n hx hb dX1_uppermostOf_7 rfl (lv_at hl 0 rfl) ?_
        refine lv_iload_n hx hb dX1_uppermostOf_8 rfl (lv_at hl 2 rfl) ?_
        refine lv_iload_n hx hb dX1_uppermostOf_9 rfl (lv_at hl 1 rfl) ?_
        refine kVi (As := [.int x2_1, .int p0]) (rest := []) B hK hN hP hD hS hA (c_X1_at l D cI cJ a G g x2_1 p0 rs _ rfl) (cwV 2 hts gX1_uppermostOf_X1_at rfl rfl rfl (by decide +kernel) ⟨(Nat.le_of_ble_eq_true rfl), (Nat.le_of_ble_eq_true rfl)⟩) 4 3 rfl rfl rfl hl.1 rfl (Nat.le_of_ble_eq_true rfl) dX1_uppermostOf_10 ⟨(Nat.le_of_ble_eq_true rfl), (Nat.le_of_ble_eq_true rfl)⟩ rfl (fun H locs hP hD hS => ?_)
        refine lv_if_le (tgt := 18) hx hb dX1_uppermostOf_13 (by decide) (fun c_3 => ?_) (fun c_3 => ?_)
        · have h := ip_ h c_3
          refine lv_iinc (v := x2_1 + 1) (lv' := [(2, .int (x2_1 + 1)), (0, .ref (a 3)), (1, .int p0)]) hx hb dX1_uppermostOf_18 hl (k := 2) rfl rfl (by decide) rfl (fun ls hl => ?_)
          refine lv_goto (tgt := 2) hx hb dX1_uppermostOf_21 (by decide) ?_
          exact ih (x2_1 + 1) _ (lz_c h hz) kk kr _ _ _ hP hD hS (lv_sub hl [1, 2, 0] rfl)
        · have h := in_ h c_3
          refine lv_iload_n hx hb dX1_uppermostOf_16 rfl (lv_at hl 2 rfl) ?_
          have h := kr _ (lz_e h hz).symm
          have h := congrArg some h
          have h0 := o1 h
          exact eI hx hb hr hlk hP hS dX1_uppermostOf_17 (Nat.le_of_ble_eq_true rfl) (Nat.le_of_ble_eq_true rfl) h0 rfl
  obtain ⟨zz_1, hl_1, h⟩ := bd_I h
  refine L2_1 6 0  zz_1 hl_1 (fun z2_1 ez H locs ls hP hD hS hl => ?_) (fun o ez => by subst ez; exact Option.some.inj h) _ _ _ hP hD hS (lv_sub hl [1, 2, 0] rfl)
  subst ez
  replace h : _ = _ := h
  simp only [se] at h
  refine lv_iconst (v := (-1)) hx hb dX1_uppermostOf_24 (by decide) ?_
  have h0 := o1 h
  exact eI hx hb hr hlk hP hS dX1_uppermostOf_25 (Nat.le_of_ble_eq_true rfl) (Nat.le_of_ble_eq_true rfl) h0 rfl
end
