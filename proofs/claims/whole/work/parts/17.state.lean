/-! laid by wip/whole/gen.py -/
/-! the nest words, one by one -/
theorem nF_0 {U : State} {args : Array Value} (h : NN U) : (Cond.fieldLinkNest "WishWellModel" 68 "WishWellModel$State" "today" "I" "WishWellModel").before args U = true := va_Nw.use rfl (h.1 ("WishWellModel", 68, "WishWellModel$State", "today", "I", "WishWellModel") (List.mem_of_getElem? (i := 0) rfl))
theorem nF_1 {U : State} {args : Array Value} (h : NN U) : (Cond.fieldLinkNest "WishWellModel" 84 "WishWellModel$State" "favour" "I" "WishWellModel").before args U = true := va_Nw.use rfl (h.1 ("WishWellModel", 84, "WishWellModel$State", "favour", "I", "WishWellModel") (List.mem_of_getElem? (i := 1) rfl))
theorem nF_2 {U : State} {args : Array Value} (h : NN U) : (Cond.fieldLinkNest "WishWellModel" 126 "WishWellModel$State" "turn" "I" "WishWellModel").before args U = true := va_Nw.use rfl (h.1 ("WishWellModel", 126, "WishWellModel$State", "turn", "I", "WishWellModel") (List.mem_of_getElem? (i := 2) rfl))
theorem nF_3 {U : State} {args : Array Value} (h : NN U) : (Cond.fieldLinkNest "WishWellModel" 93 "WishWellModel$State" "pile" "[I" "WishWellModel").before args U = true := va_Nw.use rfl (h.1 ("WishWellModel", 93, "WishWellModel$State", "pile", "[I", "WishWellModel") (List.mem_of_getElem? (i := 3) rfl))
theorem nF_4 {U : State} {args : Array Value} (h : NN U) : (Cond.fieldLinkNest "WishWellModel" 111 "WishWellModel$State" "came" "[I" "WishWellModel").before args U = true := va_Nw.use rfl (h.1 ("WishWellModel", 111, "WishWellModel$State", "came", "[I", "WishWellModel") (List.mem_of_getElem? (i := 4) rfl))
theorem nF_5 {U : State} {args : Array Value} (h : NN U) : (Cond.fieldLinkNest "WishWellModel" 81 "WishWellModel$State" "how" "[I" "WishWellModel").before args U = true := va_Nw.use rfl (h.1 ("WishWellModel", 81, "WishWellModel$State", "how", "[I", "WishWellModel") (List.mem_of_getElem? (i := 5) rfl))
theorem nF_6 {U : State} {args : Array Value} (h : NN U) : (Cond.fieldLinkNest "WishWellModel" 71 "WishWellModel$State" "when" "[I" "WishWellModel").before args U = true := va_Nw.use rfl (h.1 ("WishWellModel", 71, "WishWellModel$State", "when", "[I", "WishWellModel") (List.mem_of_getElem? (i := 6) rfl))
theorem nF_7 {U : State} {args : Array Value} (h : NN U) : (Cond.fieldLinkNest "WishWellModel$State" 69 "WishWellModel" "lands" "I" "WishWellModel").before args U = true := va_Nw.use rfl (h.1 ("WishWellModel$State", 69, "WishWellModel", "lands", "I", "WishWellModel") (List.mem_of_getElem? (i := 7) rfl))
theorem nF_8 {U : State} {args : Array Value} (h : NN U) : (Cond.fieldLinkNest "WishWellModel$State" 48 "WishWellModel" "value" "[I" "WishWellModel").before args U = true := va_Nw.use rfl (h.1 ("WishWellModel$State", 48, "WishWellModel", "value", "[I", "WishWellModel") (List.mem_of_getElem? (i := 8) rfl))
theorem nF_9 {U : State} {args : Array Value} (h : NN U) : (Cond.fieldLinkNest "WishWellModel$State" 76 "WishWellModel" "weight" "[I" "WishWellModel").before args U = true := va_Nw.use rfl (h.1 ("WishWellModel$State", 76, "WishWellModel", "weight", "[I", "WishWellModel") (List.mem_of_getElem? (i := 9) rfl))
theorem nF_10 {U : State} {args : Array Value} (h : NN U) : (Cond.fieldLinkNest "WishWellModel$State" 66 "WishWellModel" "tide" "[I" "WishWellModel").before args U = true := va_Nw.use rfl (h.1 ("WishWellModel$State", 66, "WishWellModel", "tide", "[I", "WishWellModel") (List.mem_of_getElem? (i := 10) rfl))
theorem nF_11 {U : State} {args : Array Value} (h : NN U) : (Cond.fieldLinkNest "WishWellModel$State" 57 "WishWellModel" "wishes" "I" "WishWellModel").before args U = true := va_Nw.use rfl (h.1 ("WishWellModel$State", 57, "WishWellModel", "wishes", "I", "WishWellModel") (List.mem_of_getElem? (i := 11) rfl))
theorem nF_12 {U : State} {args : Array Value} (h : NN U) : (Cond.fieldLinkNest "WishWellModel$State" 60 "WishWellModel" "kind" "[I" "WishWellModel").before args U = true := va_Nw.use rfl (h.1 ("WishWellModel$State", 60, "WishWellModel", "kind", "[I", "WishWellModel") (List.mem_of_getElem? (i := 12) rfl))
theorem nF_13 {U : State} {args : Array Value} (h : NN U) : (Cond.fieldLinkNest "WishWellModel$State" 63 "WishWellModel" "landOf" "[I" "WishWellModel").before args U = true := va_Nw.use rfl (h.1 ("WishWellModel$State", 63, "WishWellModel", "landOf", "[I", "WishWellModel") (List.mem_of_getElem? (i := 13) rfl))
theorem drop3 {D : va_G} {cl : List vw_C} {b1 b2 b3 rs : va_W} {x : Nat × va_E} {H : Heap} (h : va_P D cl (b1 ++ (b2 ++ (b3 ++ (x :: rs)))) H) : va_P D cl (b1 ++ (b2 ++ (b3 ++ rs))) H := P_mem h fun q hq => by
  simp only [List.mem_append, List.mem_cons] at hq ⊢
  rcases hq with h | h | h | h
  · exact Or.inl h
  · exact Or.inr (Or.inl h)
  · exact Or.inr (Or.inr (Or.inl h))
  · exact Or.inr (Or.inr (Or.inr (Or.inr h)))
/-! System.arraycopy in the reference, and Arrays.fill: by hand -/
set_option maxHeartbeats 4000000 in
set_option maxRecDepth 100000 in
theorem c_X6_copy (l : Launch) (D : va_G) (cI cJ : ClassId) (w w' : va_W) (b k1 h1 n : Nat) (f g : Nat → Int32) (q3 q1 : Nat) (e3 : w[q3]? = some (k1, .inl (cI, n, .inl f))) (e1 : w[q1]? = some (h1, .inl (cI, n, .inl g))) (hn : n < 2 ^ 31) (ew : w.set q1 (h1, .inl (cI, n, .inl (rCp n f g))) = w') : Cv l yX6_copy wsX6_copy ({ frames := 1, cells := 0, slots := 0, locals := 60 }) D cI cJ [.ref b, .ref k1, .ref h1] w w' := by
  refine Cv.mk (cc := cX6_copy) (maxL := 3) (ret := none) (by decide) rfl (Nat.le_of_ble_eq_true rfl) ?_
  intro p e s m below meth c A ls B hr hlk hK hN hA hP hD hl
  obtain ⟨hx, hb, hml, hown, hts⟩ := id B
  have hS : va_S A s.heap s.heap [] := va_S.rf
  have hl : lv_has ls 3 [(0, .ref b), (1, .ref k1), (2, .ref h1)] := hl
  have hcl : (nI n).toNatClampNeg = n := nI_clamp hn
  refine lv_aload_n hx hb dX6_copy_0 rfl (lv_at hl 1 rfl) ?_
  refine lv_iconst (v := 0) hx hb dX6_copy_1 (by decide) ?_
  refine lv_aload_n hx hb dX6_copy_2 rfl (lv_at hl 2 rfl) ?_
  refine lv_iconst (v := 0) hx hb dX6_copy_3 (by decide) ?_
  refine lv_aload_n hx hb dX6_copy_4 rfl (lv_at hl 1 rfl) ?_
  refine va_alen (v := nI n) hx hb hK hP q3 0 e3 rfl rfl dX6_copy_5 ?_
  refine va_copyi hx hb (hml.trans hl.1.symm) hown (hts (.methodLink RX6 32 arraycopyName) (List.mem_of_getElem? (i := 1) rfl)) (hts (.native arraycopyName) (List.mem_of_getElem? (i := 2) rfl)) (hts (.static arraycopyName) (List.mem_of_getElem? (i := 3) rfl)) (hts (.initialized "java/lang/System") (List.mem_of_getElem? (i := 4) rfl)) hK hP hD hS q3 q1 0 0 e3 e1 rfl rfl rfl (by decide) (by decide) (nI_pos hn) (by rw [hcl]; show 0 + n ≤ n; omega) (by rw [hcl]; show 0 + n ≤ n; omega) (fun i _ => rfl) (Nat.le_of_ble_eq_true rfl) (by decide +kernel) dX6_copy_6 (fun H locs hP hD hS => ?_)
  exact eV hx hb hr hlk hP hS dX6_copy_9 (Nat.le_of_ble_eq_true rfl) (Nat.le_of_ble_eq_true rfl) (by rw [← ew, hcl]; rfl)
set_option maxHeartbeats 4000000 in
set_option maxRecDepth 100000 in
theorem c_J7_rangeCheck (l : Launch) (D : va_G) (cI cJ : ClassId) (w : va_W) (n fr to : Int32) (h1 : ¬ fr < 0) (h2 : fr ≤ to) (h3 : to ≤ n) : Cv l yJ7_rangeCheck_23922 wsJ7_rangeCheck_23922 rm0_0 D cI cJ [.int n, .int fr, .int to] w w := by
  refine Cv.mk (cc := cJ7_rangeCheck_23922) (maxL := 3) (ret := none) (by decide) rfl (Nat.le_of_ble_eq_true rfl) ?_
  intro p e s m below meth c A ls B hr hlk hK hN hA hP hD hl
  obtain ⟨hx, hb, hml, hown, hts⟩ := id B
  have hS : va_S A s.heap s.heap [] := va_S.rf
  have hl : lv_has ls 3 [(0, .int n), (1, .int fr), (2, .int to)] := hl
  refine lv_iload_n hx hb dJ7_rangeCheck_23922_0 rfl (lv_at hl 1 rfl) ?_
  refine lv_iload_n hx hb dJ7_rangeCheck_23922_1 rfl (lv_at hl 2 rfl) ?_
  refine lv_icmp_le (tgt := 46) hx hb dJ7_rangeCheck_23922_2 (by decide) (fun c_1 => ?_) (fun c_1 => absurd h2 c_1)
  refine lv_iload_n hx hb dJ7_rangeCheck_23922_46 rfl (lv_at hl 1 rfl) ?_
  have h1' : 0 ≤ fr := Int32.not_lt.mp h1
  refine lv_if_ge (tgt := 59) hx hb dJ7_rangeCheck_23922_47 (by decide) (fun c_2 => ?_) (fun c_2 => absurd h1' c_2)
  refine lv_iload_n hx hb dJ7_rangeCheck_23922_59 rfl (lv_at hl 2 rfl) ?_
  refine lv_iload_n hx hb dJ7_rangeCheck_23922_60 rfl (lv_at hl 0 rfl) ?_
  refine lv_icmp_le (tgt := 73) hx hb dJ7_rangeCheck_23922_61 (by decide) (fun c_3 => ?_) (fun c_3 => absurd h3 c_3)
  exact eV hx hb hr hlk hP hS dJ7_rangeCheck_23922_73 (Nat.le_of_ble_eq_true rfl) (Nat.le_of_ble_eq_true rfl) rfl
/-- what Arrays.fill leaves -/
def flF (f : Nat → Int32) (fr to v : Int32) : Nat → Int32 := fun j => if fr.toNatClampNeg ≤ j ∧ j < to.toNatClampNeg then v else f j
theorem flF_0 (f : Nat → Int32) (x v : Int32) : flF f x x v = f := by
  funext j
  unfold flF
  rw [if_neg (by omega)]
theorem flF_1 (f : Nat → Int32) (v : Int32) {a i : Nat} (h : a ≤ i) (hi : i + 1 < 2 ^ 31) : upd (flF f (nI a) (nI i) v) (nI i).toNatClampNeg v = flF f (nI a) (nI (i + 1)) v := by
  funext j
  unfold flF
  rw [nI_clamp (by omega : a < 2 ^ 31), nI_clamp (by omega : i < 2 ^ 31), nI_clamp hi]
  by_cases hj : j = i
  · subst hj
    rw [pk_us, if_pos (by omega)]
  · rw [pk_un hj]
    by_cases c : a ≤ j ∧ j < i
    · rw [if_pos c, if_pos (by omega)]
    · rw [if_neg c, if_neg (by omega)]
set_option maxHeartbeats 4000000 in
set_option maxRecDepth 100000 in
theorem c_J7_fill (l : Launch) (D : va_G) (cI cJ : ClassId) (w w' : va_W) (h1 n : Nat) (f : Nat → Int32) (q1 : Nat) (e1 : w[q1]? = some (h1, .inl (cI, n, .inl f))) (hn : n < 2 ^ 31) (fr to v : Int32) (g1 : ¬ fr < 0) (g2 : fr ≤ to) (g3 : to ≤ nI n) (ew : w.set q1 (h1, .inl (cI, n, .inl (flF f fr to v))) = w') : Cv l yJ7_fill_fda19 wsJ7_fill_fda19 ({ frames := 1, cells := 0, slots := 0, locals := 22 }) D cI cJ [.ref h1, .int fr, .int to, .int v] w w' := by
  refine Cv.mk (cc := cJ7_fill_fda19) (maxL := 5) (ret := none) (by decide) rfl (Nat.le_of_ble_eq_true rfl) ?_
  intro p e s m below meth c A ls B hr hlk hK hN hA hP hD hl
  obtain ⟨hx, hb, hml, hown, hts⟩ := id B
  have hS : va_S A s.heap s.heap [] := va_S.rf
  have hl : lv_has ls 5 [(0, .ref h1), (1, .int fr), (2, .int to), (3, .int v)] := hl
  obtain ⟨a, ha, rfl⟩ := nI_of g1
  have g4 : ¬ to < 0 := fun h => g1 (Int32.lt_of_le_of_lt g2 h)
  obtain ⟨b, hb2, rfl⟩ := nI_of g4
  have hab : a ≤ b := (nI_leI ha hb2).mp g2
  have hbn : b ≤ n := (nI_leI hb2 hn).mp g3
  refine lv_aload_n hx hb dJ7_fill_fda19_0 rfl (lv_at hl 0 rfl) ?_
  refine va_alen (v := nI n) hx hb hK hP q1 0 e1 rfl rfl dJ7_fill_fda19_1 ?_
  refine lv_iload_n hx hb dJ7_fill_fda19_2 rfl (lv_at hl 1 rfl) ?_
  refine lv_iload_n hx hb dJ7_fill_fda19_3 rfl (lv_at hl 2 rfl) ?_
  refine kSv (As := [.int (nI n), .int (nI a), .int (nI b)]) (rest := []) B hK hN hP hD hS hA (c_J7_rangeCheck l D cI cJ w (nI n) (nI a) (nI b) g1 g2 g3) (va_cwS 3 hts gJ7_fill_fda19_J7_rangeCheck_23922 rfl rfl rfl (by decide +kernel) ⟨Nat.le_of_ble_eq_true rfl, Nat.le_of_ble_eq_true rfl⟩) rfl hl.1 rfl (Nat.le_of_ble_eq_true rfl) dJ7_fill_fda19_4 ⟨Nat.le_of_ble_eq_true rfl, Nat.le_of_ble_eq_true rfl⟩ rfl (fun H locs hP hD hS => ?_)
  refine lv_iload_n hx hb dJ7_fill_fda19_7 rfl (lv_at hl 1 rfl) ?_
  refine lv_istore (lv' := [(4, .int (nI a)), (0, .ref h1), (1, .int (nI a)), (2, .int (nI b)), (3, .int v)]) hx hb dJ7_fill_fda19_8 hl (by decide) rfl (fun ls hl => ?_)
  have hlt1 : q1 < w.length := (List.getElem?_eq_some_iff.mp e1).1
  have hgo : ∀ (k i : Nat), i + k = b → a ≤ i → ∀ (H : Heap) (locs : List Loc) (ls : Array Slot), va_P D vwCl (w.set q1 (h1, .inl (cI, n, .inl (flF f (nI a) (nI i) v)))) H → va_D A (w.set q1 (h1, .inl (cI, n, .inl (flF f (nI a) (nI i) v)))) → va_S A s.heap H locs → lv_has ls 5 [(4, .int (nI i)), (0, .ref h1), (1, .int (nI a)), (2, .int (nI b)), (3, .int v)] → W p l e (headSpec wsJ7_fill_fda19 ({ frames := 1, cells := 0, slots := 0, locals := 22 } : Room)).room s m ([.ref h1, .int (nI a), .int (nI b), .int v] : List Value).toArray below meth c H locs 0 0 (QV below D w' ([.ref h1, .int (nI a), .int (nI b), .int v] : List Value).toArray s 0 0 A) (F0 m 10 ls []) := by
    intro k
    induction k with
    | zero =>
      intro i hi hai H locs ls hP hD hS hl
      have hi : i = b := by omega
      subst hi
      refine lv_iload hx hb dJ7_fill_fda19_10 (lv_at hl 0 rfl) ?_
      refine lv_iload_n hx hb dJ7_fill_fda19_12 rfl (lv_at hl 3 rfl) ?_
      refine lv_icmp_ge (tgt := 27) hx hb dJ7_fill_fda19_13 (by decide) (fun c_1 => ?_) (fun c_1 => absurd (Int32.le_refl _) c_1)
      exact eV hx hb hr hlk hP hS dJ7_fill_fda19_27 (Nat.le_of_ble_eq_true rfl) (Nat.le_of_ble_eq_true rfl) ew
    | succ k ih =>
      intro i hi hai H locs ls hP hD hS hl
      have hib : i < b := by omega
      refine lv_iload hx hb dJ7_fill_fda19_10 (lv_at hl 0 rfl) ?_
      refine lv_iload_n hx hb dJ7_fill_fda19_12 rfl (lv_at hl 3 rfl) ?_
      refine lv_icmp_ge (tgt := 27) hx hb dJ7_fill_fda19_13 (by decide) (fun c_1 => absurd c_1 (nI_ge hib hb2)) (fun c_1 => ?_)
      refine lv_aload_n hx hb dJ7_fill_fda19_16 rfl (lv_at hl 1 rfl) ?_
      refine lv_iload hx hb dJ7_fill_fda19_17 (lv_at hl 0 rfl) ?_
      refine lv_iload_n hx hb dJ7_fill_fda19_19 rfl (lv_at hl 4 rfl) ?_
      refine va_iast hx hb hK hP hD hS q1 0 (List.getElem?_set_self hlt1) rfl (vp_in_nI (by omega) hn) dJ7_fill_fda19_20 (fun H locs hP hD hS => ?_)
      have e9 : (w.set q1 (h1, .inl (cI, n, .inl (flF f (nI a) (nI i) v)))).set q1 (h1, .inl (cI, n, .inl (upd (flF f (nI a) (nI i) v) (nI i).toNatClampNeg v))) = w.set q1 (h1, .inl (cI, n, .inl (flF f (nI a) (nI (i + 1)) v))) := by
        rw [List.set_set, flF_1 f v hai (by omega)]
      rw [e9] at hP hD
      have e8 : nI i + 1 = nI (i + 1) := nI_1 i
      refine lv_iinc (v := nI (i + 1)) (lv' := [(4, .int (nI (i + 1))), (0, .ref h1), (1, .int (nI a)), (2, .int (nI b)), (3, .int v)]) hx hb dJ7_fill_fda19_21 hl (k := 0) rfl e8 (by decide) rfl (fun ls hl => ?_)
      refine lv_goto (tgt := 10) hx hb dJ7_fill_fda19_24 (by decide) ?_
      exact ih (i + 1) (by omega) (by omega) _ _ _ hP hD hS hl
  have e7 : w.set q1 (h1, .inl (cI, n, .inl (flF f (nI a) (nI a) v))) = w := by
    rw [flF_0]
    obtain ⟨hq, e⟩ := List.getElem?_eq_some_iff.mp e1
    rw [← e]
    exact List.set_getElem_self hq
  exact hgo (b - a) a (by omega) (Nat.le_refl a) _ _ _ (by rw [e7]; exact hP) (by rw [e7]; exact hD) hS hl
noncomputable def fX6_drop (T : Nat → Nat → Int32) (t : Nat → Int32) (M : Nat → Nat → Int32) (p0 : Int32) : Option ((Nat → Nat → Int32) × (Nat → Int32)) := gd (vp_in p0 30) (gd (vp_in p0 30) (lt_ (uG T 0 (upd (T 0) (Int32.toNatClampNeg p0) ((T 0 (Int32.toNatClampNeg p0)) + 1))) (fun T_3 => gd (vp_in p0 6) (gd (vp_in p0 6) (lt_ (uG T_3 1 (upd (T_3 1) (Int32.toNatClampNeg p0) ((T_3 1 (Int32.toNatClampNeg p0)) + 1))) (fun T_6 => gd (vp_in p0 6) (lt_ (uS t 1 (if ((t 1) + ((M 0 (Int32.toNatClampNeg p0)) / 10)) < 500 then (t 1) + ((M 0 (Int32.toNatClampNeg p0)) / 10) else 500)) (fun t_8 => some (T_6, t_8)))))))))
set_option maxHeartbeats 4000000 in
set_option maxRecDepth 100000 in
theorem c_X6_drop (l : Launch) (D : va_G) (cI cJ : ClassId) (q o : Nat → Nat) (s0 u0 : Nat) (T : Nat → Nat → Int32) (t : Nat → Int32) (M : Nat → Nat → Int32) (k : Nat → Int32) (p0 : Int32) (T' : Nat → Nat → Int32) (t' : Nat → Int32) (rs : va_W) (h : fX6_drop T t M p0 = some (T', t')) : Cv l yX6_drop wsX6_drop ({ frames := 1, cells := 0, slots := 0, locals := 21 } : Room) D cI cJ ([.ref (q 0), .int p0] : List Value) (ms cI q o T t ++ (mo cI o s0 u0 M k ++ rs)) (ms cI q o T' t' ++ (mo cI o s0 u0 M k ++ rs)) := by
  refine Cv.mk (cc := cX6_drop) (maxL := 2) (ret := none) (by decide) rfl (Nat.le_of_ble_eq_true rfl) ?_
  intro p e s m below meth c A ls B hr hlk hK hN hA hP hD hl
  obtain ⟨hx, hb, hml, hown, hts⟩ := id B
  have hi_X6 : ∀ w ∈ wsX60, w ∈ wsX6_drop := fun _ h => List.mem_cons_of_mem _ (List.mem_append_left _ (List.mem_append_left _ (List.mem_append_right _ (h))))
  have hi_X7 : ∀ w ∈ wsX70, w ∈ wsX6_drop := fun _ h => List.mem_cons_of_mem _ (List.mem_append_left _ (List.mem_append_right _ (h)))
  have hS : va_S A s.heap s.heap [] := va_S.rf
  have hl : lv_has ls 2 [(0, .ref (q 0)), (1, .int p0)] := hl
  unfold fX6_drop at h
  refine lv_aload_n hx hb dX6_drop_0 rfl (lv_at hl 0 rfl) ?_
  refine va_get (ci := 9) (v := .ref (q 1)) (C := RX6) (T := TX6) (N := 8) hx hb hts hi_X6 hown hK hP 0 rfl rfl 3 (by decide) (hts (.fieldLink RX6 19 "WishWellModel$State" "pile" "[I") (List.mem_of_getElem? (i := 1) rfl)) (fun _ h9 => h9) rfl dX6_drop_1 ?_
  refine lv_iload_n hx hb dX6_drop_4 rfl (lv_at hl 1 rfl) ?_
  refine lv_dup2_11 hx hb dX6_drop_5 rfl rfl ?_
  obtain ⟨c_1, h⟩ := gd_I h
  refine va_iald hx hb hK hP 1 0 rfl rfl c_1 dX6_drop_6 ?_
  refine lv_iconst (v := 1) hx hb dX6_drop_7 (by decide) ?_
  refine lv_iadd hx hb dX6_drop_8 ?_
  obtain ⟨c_2, h⟩ := gd_I h
  refine va_iast hx hb hK hP hD hS 1 0 rfl rfl c_2 dX6_drop_9 (fun H locs hP hD hS => ?_)
  obtain ⟨T_3, eT_3, h⟩ := lt_I h
  have hP : va_P D vwCl (ms cI q o T_3 t ++ (mo cI o s0 u0 M k ++ rs)) H := by rw [eT_3]; exact hP
  have hD : va_D A (ms cI q o T_3 t ++ (mo cI o s0 u0 M k ++ rs)) := by rw [eT_3]; exact hD
  refine lv_aload_n hx hb dX6_drop_10 rfl (lv_at hl 0 rfl) ?_
  refine va_get (ci := 9) (v := .ref (q 2)) (C := RX6) (T := TX6) (N := 8) hx hb hts hi_X6 hown hK hP 0 rfl rfl 4 (by decide) (hts (.fieldLink RX6 23 "WishWellModel$State" "came" "[I") (List.mem_of_getElem? (i := 2) rfl)) (fun _ h9 => h9) rfl dX6_drop_11 ?_
  refine lv_iload_n hx hb dX6_drop_14 rfl (lv_at hl 1 rfl) ?_
  refine lv_dup2_11 hx hb dX6_drop_15 rfl rfl ?_
  obtain ⟨c_4, h⟩ := gd_I h
  refine va_iald hx hb hK hP 2 0 rfl rfl c_4 dX6_drop_16 ?_
  refine lv_iconst (v := 1) hx hb dX6_drop_17 (by decide) ?_
  refine lv_iadd hx hb dX6_drop_18 ?_
  obtain ⟨c_5, h⟩ := gd_I h
  refine va_iast hx hb hK hP hD hS 2 0 rfl rfl c_5 dX6_drop_19 (fun H locs hP hD hS => ?_)
  obtain ⟨T_6, eT_6, h⟩ := lt_I h
  have hP : va_P D vwCl (ms cI q o T_6 t ++ (mo cI o s0 u0 M k ++ rs)) H := by rw [eT_6]; exact hP
  have hD : va_D A (ms cI q o T_6 t ++ (mo cI o s0 u0 M k ++ rs)) := by rw [eT_6]; exact hD
  refine lv_aload_n hx hb dX6_drop_20 rfl (lv_at hl 0 rfl) ?_
  refine lv_sipush (v := 500) hx hb dX6_drop_21 (by decide) ?_
  refine lv_aload_n hx hb dX6_drop_24 rfl (lv_at hl 0 rfl) ?_
  refine va_get (ci := 9) (v := .int (t 1)) (C := RX6) (T := TX6) (N := 8) hx hb hts hi_X6 hown hK hP 0 rfl rfl 1 (by decide) (hts (.fieldLink RX6 15 "WishWellModel$State" "favour" "I") (List.mem_of_getElem? (i := 3) rfl)) (fun _ h9 => h9) rfl dX6_drop_25 ?_
  refine lv_aload_n hx hb dX6_drop_28 rfl (lv_at hl 0 rfl) ?_
  refine va_get (ci := 9) (v := .ref (o 0)) (C := RX6) (T := TX6) (N := 8) hx hb hts hi_X6 hown hK hP 0 rfl rfl 7 (by decide) (hts (.fieldLink RX6 3 "WishWellModel$State" "this$0" "LWishWellModel;") (List.mem_of_getElem? (i := 4) rfl)) (fun _ h9 => h9) rfl dX6_drop_29 ?_
  refine va_getN (own := RX6) (ref := "WishWellModel") (host := "WishWellModel") (index := 48) (ci := 10) (v := .ref (o 1)) (C := RX7) (T := TX7) (N := 15) hx hb hts hi_X7 hown hK hP 5 rfl rfl 2 (by decide) (nF_8 hN) (fun _ h9 => h9) rfl dX6_drop_32 ?_
  refine lv_iload_n hx hb dX6_drop_35 rfl (lv_at hl 1 rfl) ?_
  obtain ⟨c_7, h⟩ := gd_I h
  refine va_iald hx hb hK hP 6 0 rfl rfl c_7 dX6_drop_36 ?_
  refine lv_bipush (v := 10) hx hb dX6_drop_37 (by decide) ?_
  refine lv_idiv hx hb dX6_drop_39 (by decide) ?_
  refine lv_iadd hx hb dX6_drop_40 ?_
  refine va_mmin hx hb (hml.trans hl.1.symm) hown (hts (.methodLink RX6 51 Lib.Math.min.name) (List.mem_of_getElem? (i := 5) rfl)) (hts (.static Lib.Math.min.name) (List.mem_of_getElem? (i := 6) rfl)) (hts (.initialized "java/lang/Math") (List.mem_of_getElem? (i := 7) rfl)) (hts (.code Lib.Math.min.name Lib.Math.min.code 2 (some .int)) (List.mem_of_getElem? (i := 8) rfl)) (Nat.le_of_ble_eq_true rfl) (Nat.le_of_ble_eq_true rfl) (Nat.le_of_ble_eq_true rfl) (Nat.le_of_ble_eq_true rfl) dX6_drop_41 ?_
  refine va_put (D := D) (ci := 9) (v := .int (if ((t 1) + ((M 0 (Int32.toNatClampNeg p0)) / 10)) < 500 then (t 1) + ((M 0 (Int32.toNatClampNeg p0)) / 10) else 500)) (ty := .int) (C := RX6) (T := TX6) (N := 8) hx hb hts hi_X6 tyX6 tyX6_ok nmX6 hown hK hP hD hS 0 rfl rfl 1 (by decide) (hts (.fieldLink RX6 15 "WishWellModel$State" "favour" "I") (List.mem_of_getElem? (i := 3) rfl)) (fun _ h9 => h9) rfl (by decide +kernel) rfl rfl (Nat.le_of_ble_eq_true rfl) dX6_drop_44 (fun H locs hP hD hS => ?_)
  obtain ⟨t_8, et_8, h⟩ := lt_I h
  have hP : va_P D vwCl (ms cI q o T_6 t_8 ++ (mo cI o s0 u0 M k ++ rs)) H := by rw [et_8]; exact hP
  have hD : va_D A (ms cI q o T_6 t_8 ++ (mo cI o s0 u0 M k ++ rs)) := by rw [et_8]; exact hD
  obtain ⟨h0, h1⟩ := o2 h
  exact eV hx hb hr hlk hP hS dX6_drop_47 (Nat.le_of_ble_eq_true rfl) (Nat.le_of_ble_eq_true rfl) (by rw [h0, h1])
noncomputable def fX6_next_B4 (T : Nat → Nat → Int32) (M : Nat → Nat → Int32) (k : Nat → Int32) (p0 : Int32) (x2_1 : Int32) (x3_1 : Int32)  : Option ((Int32 × Int32) ⊕ (Int32 × Int32)) := if (k 2) ≤ x3_1 then (some (.inr (x2_1, x3_1))) else (gd (vp_in x3_1 24) (if (T 2 (Int32.toNatClampNeg x3_1)) = 0 then (gd (vp_in x3_1 24) (if (M 5 (Int32.toNatClampNeg x3_1)) = p0 then (if x2_1 = (-1) then (some (.inl (x3_1, x3_1 + 1))) else (gd (vp_in x3_1 24) (gd (vp_in (M 6 (Int32.toNatClampNeg x3_1)) 6) (gd (vp_in x2_1 24) (gd (vp_in (M 6 (Int32.toNatClampNeg x2_1)) 6) (if (M 0 (Int32.toNatClampNeg (M 6 (Int32.toNatClampNeg x3_1)))) ≤ (M 0 (Int32.toNatClampNeg (M 6 (Int32.toNatClampNeg x2_1)))) then (some (.inl (x2_1, x3_1 + 1))) else (some (.inl (x3_1, x3_1 + 1))))))))) else (some (.inl (x2_1, x3_1 + 1))))) else (some (.inl (x2_1, x3_1 + 1)))))
noncomputable def fX6_next (T : Nat → Nat → Int32) (M : Nat → Nat → Int32) (k : Nat → Int32) (p0 : Int32) : Option (Int32) := b2 (lp (fun s => fX6_next_B4 T M k p0 s.1 s.2) 25 ((-1), 0)) (fun z2_1 z3_1 => some z2_1)
set_option maxHeartbeats 4000000 in
set_option maxRecDepth 100000 in
theorem c_X6_next (l : Launch) (D : va_G) (cI cJ : ClassId) (q o : Nat → Nat) (s0 u0 : Nat) (T : Nat → Nat → Int32) (t : Nat → Int32) (M : Nat → Nat → Int32) (k : Nat → Int32) (p0 : Int32) (r' : Int32) (rs : va_W) (h : fX6_next T M k p0 = some r') : Ci l yX6_next wsX6_next ({ frames := 0, cells := 0, slots := 0, locals := 0 } : Room) D cI cJ ([.ref (q 0), .int p0] : List Value) (ms cI q o T t ++ (mo cI o s0 u0 M k ++ rs)) r' (ms cI q o T t ++ (mo cI o s0 u0 M k ++ rs)) := by
  refine Ci.mk (cc := cX6_next) (maxL := 4) (ret := (some .int)) (by decide) rfl (Nat.le_of_ble_eq_true rfl) ?_
  intro p e s m below meth c A ls B hr hlk hK hN hA hP hD hl
  obtain ⟨hx, hb, hml, hown, hts⟩ := id B
  have hi_X6 : ∀ w ∈ wsX60, w ∈ wsX6_next := fun _ h => List.mem_cons_of_mem _ (List.mem_append_left _ (List.mem_append_left _ (List.mem_append_right _ (h))))
  have hi_X7 : ∀ w ∈ wsX70, w ∈ wsX6_next := fun _ h => List.mem_cons_of_mem _ (List.mem_append_left _ (List.mem_append_right _ (h)))
  have hS : va_S A s.heap s.heap [] := va_S.rf
  have hl : lv_has ls 4 [(0, .ref (q 0)), (1, .int p0)] := hl
  unfold fX6_next at h
  refine lv_iconst (v := (-1)) hx hb dX6_next_0 (by decide) ?_
  refine lv_istore_n (lv' := [(2, .int (-1)), (0, .ref (q 0)), (1, .int p0)]) hx hb dX6_next_1 rfl hl (by decide) rfl (fun ls hl => ?_)
  refine lv_iconst (v := 0) hx hb dX6_next_2 (by decide) ?_
  refine lv_istore_n (lv' := [(3, .int 0), (2, .int (-1)), (0, .ref (q 0)), (1, .int p0)]) hx hb dX6_next_3 rfl hl (by decide) rfl (fun ls hl => ?_)
  have L4_1 : ∀ (n : Nat) (x2_1 : Int32) (x3_1 : Int32)  (z2_1 : Int32) (z3_1 : Int32)  (_ : lp (fun s => fX6_next_B4 T M k p0 s.1 s.2) n (x2_1, x3_1) = some (z2_1, z3_1)) (_ : ∀ (H : Heap) (locs : List Loc) (ls : Array Slot), va_P D vwCl (ms cI q o T t ++ (mo cI o s0 u0 M k ++ rs)) H → va_D A (ms cI q o T t ++ (mo cI o s0 u0 M k ++ rs)) → va_S A s.heap H locs → lv_has ls 4 [(0, .ref (q 0)), (1, .int p0), (2, .int z2_1), (3, .int z3_1)] → W p l e (headSpec wsX6_next ({ frames := 0, cells := 0, slots := 0, locals := 0 } : Room)).room s m ([.ref (q 0), .int p0] : List Value).toArray below meth c H locs (0) (0) (QI below D (ms cI q o T t ++ (mo cI o s0 u0 M k ++ rs)) r' ([.ref (q 0), .int p0] : List Value).toArray s 0 0 A) (F0 m 90 ls [])) (H : Heap) (locs : List Loc) (ls : Array Slot), va_P D vwCl (ms cI q o T t ++ (mo cI o s0 u0 M k ++ rs)) H → va_D A (ms cI q o T t ++ (mo cI o s0 u0 M k ++ rs)) → va_S A s.heap H locs → lv_has ls 4 [(0, .ref (q 0)), (1, .int p0), (2, .int x2_1), (3, .int x3_1)] → W p l e (headSpec wsX6_next ({ frames := 0, cells := 0, slots := 0, locals := 0 } : Room)).room s m ([.ref (q 0), .int p0] : List Value).toArray below meth c H locs (0) (0) (QI below D (ms cI q o T t ++ (mo cI o s0 u0 M k ++ rs)) r' ([.ref (q 0), .int p0] : List Value).toArray s 0 0 A) (F0 m 4 ls []) := by
    intro n
    induction n with
    | zero => intro x2_1 x3_1 z2_1 z3_1 h; exact (lp_0 h).elim
    | succ n ih =>
      intro x2_1 x3_1 z2_1 z3_1 h kk H locs ls hP hD hS hl
      obtain ⟨z, h, hz⟩ := lp_walk h
      have h : fX6_next_B4 T M k p0 x2_1 x3_1 = some z := h
      unfold fX6_next_B4 at h
      refine lv_iload_n hx hb dX6_next_4 rfl (lv_at hl 3 rfl) ?_
      refine lv_aload_n hx hb dX6_next_5 rfl (lv_at hl 0 rfl) ?_
      refine va_get (ci := 9) (v := .ref (o 0)) (C := RX6) (T := TX6) (N := 8) hx hb hts hi_X6 hown hK hP 0 rfl rfl 7 (by decide) (hts (.fieldLink RX6 3 "WishWellModel$State" "this$0" "LWishWellModel;") (List.mem_of_getElem? (i := 1) rfl)) (fun _ h9 => h9) rfl dX6_next_6 ?_
      refine va_getN (own := RX6) (ref := "WishWellModel") (host := "WishWellModel") (index := 57) (ci := 10) (v := .int (k 2)) (C := RX7) (T := TX7) (N := 15) hx hb hts hi_X7 hown hK hP 5 rfl rfl 7 (by decide) (nF_11 hN) (fun _ h9 => h9) rfl dX6_next_9 ?_
      refine lv_icmp_ge (tgt := 90) hx hb dX6_next_12 (by decide) (fun c_2 => ?_) (fun c_2 => ?_)
      · have h := ip_ h c_2
        cases lz_e h hz
        exact kk _ _ _ hP hD hS (lv_sub hl [0, 1, 2, 3] rfl)
      · have h := in_ h c_2
        refine lv_aload_n hx hb dX6_next_15 rfl (lv_at hl 0 rfl) ?_
        refine va_get (ci := 9) (v := .ref (q 3)) (C := RX6) (T := TX6) (N := 8) hx hb hts hi_X6 hown hK hP 0 rfl rfl 5 (by decide) (hts (.fieldLink RX6 26 "WishWellModel$State" "how" "[I") (List.mem_of_getElem? (i := 2) rfl)) (fun _ h9 => h9) rfl dX6_next_16 ?_
        refine lv_iload_n hx hb dX6_next_19 rfl (lv_at hl 3 rfl) ?_
        obtain ⟨c_3, h⟩ := gd_I h
        refine va_iald hx hb hK hP 3 0 rfl rfl c_3 dX6_next_20 ?_
        refine lv_if_ne (tgt := 84) hx hb dX6_next_21 (by decide) (fun c_4 => ?_) (fun c_4 => ?_)
        · have h := in_ h c_4
          refine lv_iinc (v := x3_1 + 1) (lv' := [(3, .int (x3_1 + 1)), (0, .ref (q 0)), (1, .int p0), (2, .int x2_1)]) hx hb dX6_next_84 hl (k := 3) rfl rfl (by decide) rfl (fun ls hl => ?_)
          refine lv_goto (tgt := 4) hx hb dX6_next_87 (by decide) ?_
          exact ih x2_1 (x3_1 + 1) _ _ (lz_c h hz) kk _ _ _ hP hD hS (lv_sub hl [1, 2, 3, 0] rfl)
        · have h := ip_ h c_4
          refine lv_aload_n hx hb dX6_next_24 rfl (lv_at hl 0 rfl) ?_
          refine va_get (ci := 9) (v := .ref (o 0)) (C := RX6) (T := TX6) (N := 8) hx hb hts hi_X6 hown hK hP 0 rfl rfl 7 (by decide) (hts (.fieldLink RX6 3 "WishWellModel$State" "this$0" "LWishWellModel;") (List.mem_of_getElem? (i := 1) rfl)) (fun _ h9 => h9) rfl dX6_next_25 ?_
          refine va_getN (own := RX6) (ref := "WishWellModel") (host := "WishWellModel") (index := 60) (ci := 10) (v := .ref (o 6)) (C := RX7) (T := TX7) (N := 15) hx hb hts hi_X7 hown hK hP 5 rfl rfl 8 (by decide) (nF_12 hN) (fun _ h9 => h9) rfl dX6_next_28 ?_
          refine lv_iload_n hx hb dX6_next_31 rfl (lv_at hl 3 rfl) ?_
          obtain ⟨c_5, h⟩ := gd_I h
          refine va_iald hx hb hK hP 11 0 rfl rfl c_5 dX6_next_32 ?_
          refine lv_iload_n hx hb dX6_next_33 rfl (lv_at hl 1 rfl) ?_
          refine lv_icmp_eq (tgt := 40) hx hb dX6_next_34 (by decide) (fun c_6 => ?_) (fun c_6 => ?_)
          · have h := ip_ h c_6
            refine lv_iload_n hx hb dX6_next_40 rfl (lv_at hl 2 rfl) ?_
            refine lv_iconst (v := (-1)) hx hb dX6_next_41 (by decide) ?_
            refine lv_icmp_eq (tgt := 82) hx hb dX6_next_42 (by decide) (fun c_7 => ?_) (fun c_7 => ?_)
            · have h := ip_ h c_7
              refine lv_iload_n hx hb dX6_next_82 rfl (lv_at hl 3 rfl) ?_
              refine lv_istore_n (lv' := [(2, .int x3_1), (0, .ref (q 0)), (1, .int p0), (3, .int x3_1)]) hx hb dX6_next_83 rfl hl (by decide) rfl (fun ls hl => ?_)
              refine lv_iinc (v := x3_1 + 1) (lv' := [(3, .int (x3_1 + 1)), (2, .int x3_1), (0, .ref (q 0)), (1, .int p0)]) hx hb dX6_next_84 hl (k := 3) rfl rfl (by decide) rfl (fun ls hl => ?_)
              refine lv_goto (tgt := 4) hx hb dX6_next_87 (by decide) ?_
              exact ih x3_1 (x3_1 + 1) _ _ (lz_c h hz) kk _ _ _ hP hD hS (lv_sub hl [2, 3, 1, 0] rfl)
            · have h := in_ h c_7
              refine lv_aload_n hx hb dX6_next_45 rfl (lv_at hl 0 rfl) ?_
              refine va_get (ci := 9) (v := .ref (o 0)) (C := RX6) (T := TX6) (N := 8) hx hb hts hi_X6 hown hK hP 0 rfl rfl 7 (by decide) (hts (.fieldLink RX6 3 "WishWellModel$State" "this$0" "LWishWellModel;") (List.mem_of_getElem? (i := 1) rfl)) (fun _ h9 => h9) rfl dX6_next_46 ?_
              refine va_getN (own := RX6) (ref := "WishWellModel") (host := "WishWellModel") (index := 48) (ci := 10) (v := .ref (o 1)) (C := RX7) (T := TX7) (N := 15) hx hb hts hi_X7 hown hK hP 5 rfl rfl 2 (by decide) (nF_8 hN) (fun _ h9 => h9) rfl dX6_next_49 ?_
              refine lv_aload_n hx hb dX6_next_52 rfl (lv_at hl 0 rfl) ?_
              refine va_get (ci := 9) (v := .ref (o 0)) (C := RX6) (T := TX6) (N := 8) hx hb hts hi_X6 hown hK hP 0 rfl rfl 7 (by decide) (hts (.fieldLink RX6 3 "WishWellModel$State" "this$0" "LWishWellModel;") (List.mem_of_getElem? (i := 1) rfl)) (fun _ h9 => h9) rfl dX6_next_53 ?_
              refine va_getN (own := RX6) (ref := "WishWellModel") (host := "WishWellModel") (index := 63) (ci := 10) (v := .ref (o 7)) (C := RX7) (T := TX7) (N := 15) hx hb hts hi_X7 hown hK hP 5 rfl rfl 9 (by decide) (nF_13 hN) (fun _ h9 => h9) rfl dX6_next_56 ?_
              refine lv_iload_n hx hb dX6_next_59 rfl (lv_at hl 3 rfl) ?_
              obtain ⟨c_8, h⟩ := gd_I h
              refine va_iald hx hb hK hP 12 0 rfl rfl c_8 dX6_next_60 ?_
              obtain ⟨c_9, h⟩ := gd_I h
              refine va_iald hx hb hK hP 6 0 rfl rfl c_9 dX6_next_61 ?_
              refine lv_aload_n hx hb dX6_next_62 rfl (lv_at hl 0 rfl) ?_
              refine va_get (ci := 9) (v := .ref (o 0)) (C := RX6) (T := TX6) (N := 8) hx hb hts hi_X6 hown hK hP 0 rfl rfl 7 (by decide) (hts (.fieldLink RX6 3 "WishWellModel$State" "this$0" "LWishWellModel;") (List.mem_of_getElem? (i := 1) rfl)) (fun _ h9 => h9) rfl dX6_next_63 ?_
              refine va_getN (own := RX6) (ref := "WishWellModel") (host := "WishWellModel") (index := 48) (ci := 10) (v := .ref (o 1)) (C := RX7) (T := TX7) (N := 15) hx hb hts hi_X7 hown hK hP 5 rfl rfl 2 (by decide) (nF_8 hN) (fun _ h9 => h9) rfl dX6_next_66 ?_
              refine lv_aload_n hx hb dX6_next_69 rfl (lv_at hl 0 rfl) ?_
              refine va_get (ci := 9) (v := .ref (o 0)) (C := RX6) (T := TX6) (N := 8) hx hb hts hi_X6 hown hK hP 0 rfl rfl 7 (by decide) (hts (.fieldLink RX6 3 "WishWellModel$State" "this$0" "LWishWellModel;") (List.mem_of_getElem? (i := 1) rfl)) (fun _ h9 => h9) rfl dX6_next_70 ?_
              refine va_getN (own := RX6) (ref := "WishWellModel") (host := "WishWellModel") (index := 63) (ci := 10) (v := .ref (o 7)) (C := RX7) (T := TX7) (N := 15) hx hb hts hi_X7 hown hK hP 5 rfl rfl 9 (by decide) (nF_13 hN) (fun _ h9 => h9) rfl dX6_next_73 ?_
              refine lv_iload_n hx hb dX6_next_76 rfl (lv_at hl 2 rfl) ?_
              obtain ⟨c_10, h⟩ := gd_I h
              refine va_iald hx hb hK hP 12 0 rfl rfl c_10 dX6_next_77 ?_
              obtain ⟨c_11, h⟩ := gd_I h
              refine va_iald hx hb hK hP 6 0 rfl rfl c_11 dX6_next_78 ?_
              refine lv_icmp_le (tgt := 84) hx hb dX6_next_79 (by decide) (fun c_12 => ?_) (fun c_12 => ?_)
              · have h := ip_ h c_12
                refine lv_iinc (v := x3_1 + 1) (lv' := [(3, .int (x3_1 + 1)), (0, .ref (q 0)), (1, .int p0), (2, .int x2_1)]) hx hb dX6_next_84 hl (k := 3) rfl rfl (by decide) rfl (fun ls hl => ?_)
                refine lv_goto (tgt := 4) hx hb dX6_next_87 (by decide) ?_
                exact ih x2_1 (x3_1 + 1) _ _ (lz_c h hz) kk _ _ _ hP hD hS (lv_sub hl [1, 2, 3, 0] rfl)
              · have h := in_ h c_12
                refine lv_iload_n hx hb dX6_next_82 rfl (lv_at hl 3 rfl) ?_
                refine lv_istore_n (lv' := [(2, .int x3_1), (0, .ref (q 0)), (1, .int p0), (3, .int x3_1)]) hx hb dX6_next_83 rfl hl (by decide) rfl (fun ls hl => ?_)
                refine lv_iinc (v := x3_1 + 1) (lv' := [(3, .int (x3_1 + 1)), (2, .int x3_1), (0, .ref (q 0)), (1, .int p0)]) hx hb dX6_next_84 hl (k := 3) rfl rfl (by decide) rfl (fun ls hl => ?_)
                refine lv_goto (tgt := 4) hx hb dX6_next_87 (by decide) ?_
                exact ih x3_1 (x3_1 + 1) _ _ (lz_c h hz) kk _ _ _ hP hD hS (lv_sub hl [2, 3, 1, 0] rfl)
          · have h := in_ h c_6
            refine lv_goto (tgt := 84) hx hb dX6_next_37 (by decide) ?_
            refine lv_iinc (v := x3_1 + 1) (lv' := [(3, .int (x3_1 + 1)), (0, .ref (q 0)), (1, .int p0), (2, .int x2_1)]) hx hb dX6_next_84 hl (k := 3) rfl rfl (by decide) rfl (fun ls hl => ?_)
            refine lv_goto (tgt := 4) hx hb dX6_next_87 (by decide) ?_
            exact ih x2_1 (x3_1 + 1) _ _ (lz_c h hz) kk _ _ _ hP hD hS (lv_sub hl [1, 2, 3, 0] rfl)
  obtain ⟨z2_1, z3_1, hl_1, h⟩ := b2_I h
  refine L4_1 25 (-1) 0  z2_1 z3_1 hl_1 (fun H locs ls hP hD hS hl => ?_) _ _ _ hP hD hS (lv_sub hl [2, 3, 1, 0] rfl)
  refine lv_iload_n hx hb dX6_next_90 rfl (lv_at hl 2 rfl) ?_
  have h0 := o1 h
  exact eI hx hb hr hlk hP hS dX6_next_91 (Nat.le_of_ble_eq_true rfl) (Nat.le_of_ble_eq_true rfl) h0 rfl
noncomputable def fX6_pass_B2 (M : Nat → Nat → Int32) (k : Nat → Int32) (x1_1 : Int32) (T_1 : Nat → Nat → Int32) (t_1 : Nat → Int32) : Option ((Int32 × (Nat → Nat → Int32) × (Nat → Int32)) ⊕ (Int32 × (Nat → Nat → Int32) × (Nat → Int32))) := gd (vp_in ((t_1 0) - (t_1 0) / 7 * 7) 7) (if (M 2 (Int32.toNatClampNeg ((t_1 0) - (t_1 0) / 7 * 7))) ≤ x1_1 then (some (.inr (x1_1, T_1, t_1))) else (if (k 1) ≤ 0 then (some (.inr (x1_1, T_1, t_1))) else (gd (¬ (k 1) = 0) (b2 (fX6_drop T_1 t_1 M (((t_1 0) + x1_1) - ((t_1 0) + x1_1) / (k 1) * (k 1))) (fun T_6 t_7 => some (.inl (x1_1 + 1, T_6, t_7)))))))
noncomputable def fX6_pass_B58 (M : Nat → Nat → Int32) (x1_9 : Int32) (T_9 : Nat → Nat → Int32) : Option ((Int32 × (Nat → Nat → Int32)) ⊕ (Int32 × (Nat → Nat → Int32))) := if x1_9 < 0 then (some (.inr (x1_9, T_9))) else (gd (vp_in x1_9 30) (gd (vp_in (x1_9 - x1_9 / 6 * 6) 6) (if (M 1 (Int32.toNatClampNeg (x1_9 - x1_9 / 6 * 6))) < 4 then (lt_ ((T_9 0 (Int32.toNatClampNeg x1_9)) / 4) (fun y2_14 => gd (vp_in x1_9 30) (gd (vp_in x1_9 30) (lt_ (uG T_9 0 (upd (T_9 0) (Int32.toNatClampNeg x1_9) ((T_9 0 (Int32.toNatClampNeg x1_9)) - y2_14))) (fun T_17 => gd (vp_in (x1_9 + 6) 30) (gd (vp_in (x1_9 + 6) 30) (lt_ (uG T_17 0 (upd (T_17 0) (Int32.toNatClampNeg (x1_9 + 6)) ((T_17 0 (Int32.toNatClampNeg (x1_9 + 6))) + y2_14))) (fun T_20 => some (.inl (x1_9 + (-1), T_20)))))))))) else (lt_ ((T_9 0 (Int32.toNatClampNeg x1_9)) / 2) (fun y2_21 => gd (vp_in x1_9 30) (gd (vp_in x1_9 30) (lt_ (uG T_9 0 (upd (T_9 0) (Int32.toNatClampNeg x1_9) ((T_9 0 (Int32.toNatClampNeg x1_9)) - y2_21))) (fun T_24 => gd (vp_in (x1_9 + 6) 30) (gd (vp_in (x1_9 + 6) 30) (lt_ (uG T_24 0 (upd (T_24 0) (Int32.toNatClampNeg (x1_9 + 6)) ((T_24 0 (Int32.toNatClampNeg (x1_9 + 6))) + y2_21))) (fun T_27 => some (.inl (x1_9 + (-1), T_27)))))))))))))
noncomputable def fX6_pass (T : Nat → Nat → Int32) (t : Nat → Int32) (M : Nat → Nat → Int32) (k : Nat → Int32) : Option (Int32 × (Nat → Nat → Int32) × (Nat → Int32)) := b3 (lp (fun s => fX6_pass_B2 M k s.1 s.2.1 s.2.2) 10 (0, T, t)) (fun z1_1 Tz_1 tz_1 => b2 (lp (fun s => fX6_pass_B58 M s.1 s.2) 25 (23, Tz_1)) (fun z1_9 Tz_9 => Option.bind (fX6_next Tz_9 M k (tz_1 2)) (fun r_28 => if r_28 = (-1) then (lt_ (uS tz_1 1 (if ((tz_1 1) + 2) < 500 then (tz_1 1) + 2 else 500)) (fun t_32 => lt_ (uS t_32 2 (((t_32 2) + 1) - ((t_32 2) + 1) / 4 * 4)) (fun t_33 => lt_ (uS t_33 0 ((t_33 0) + 1)) (fun t_34 => some (0, Tz_9, t_34))))) else (gd (vp_in r_28 24) (gd (vp_in (M 6 (Int32.toNatClampNeg r_28)) 6) (if (tz_1 1) < (10 + (M 0 (Int32.toNatClampNeg (M 6 (Int32.toNatClampNeg r_28))))) then (lt_ (uS tz_1 1 (if ((tz_1 1) + 2) < 500 then (tz_1 1) + 2 else 500)) (fun t_39 => lt_ (uS t_39 2 (((t_39 2) + 1) - ((t_39 2) + 1) / 4 * 4)) (fun t_40 => lt_ (uS t_40 0 ((t_40 0) + 1)) (fun t_41 => some (0, Tz_9, t_41))))) else (gd (vp_in r_28 24) (gd (vp_in (M 6 (Int32.toNatClampNeg r_28)) 6) (lt_ (uS tz_1 1 ((tz_1 1) - (10 + (M 0 (Int32.toNatClampNeg (M 6 (Int32.toNatClampNeg r_28))))))) (fun t_45 => gd (vp_in r_28 24) (lt_ (uG Tz_9 2 (upd (Tz_9 2) (Int32.toNatClampNeg r_28) 1)) (fun T_47 => gd (vp_in r_28 24) (lt_ (uG T_47 3 (upd (T_47 3) (Int32.toNatClampNeg r_28) (t_45 0))) (fun T_49 => lt_ (uS t_45 2 (((t_45 2) + 1) - ((t_45 2) + 1) / 4 * 4)) (fun t_50 => lt_ (uS t_50 0 ((t_50 0) + 1)) (fun t_51 => some (1, T_49, t_51)))))))))))))))))
set_option maxHeartbeats 4000000 in
set_option maxRecDepth 100000 in
theorem c_X6_pass (l : Launch) (D : va_G) (cI cJ : ClassId) (q o : Nat → Nat) (s0 u0 : Nat) (T : Nat → Nat → Int32) (t : Nat → Int32) (M : Nat → Nat → Int32) (k : Nat → Int32) (r' : Int32) (T' : Nat → Nat → Int32) (t' : Nat → Int32) (rs : va_W) (h : fX6_pass T t M k = some (r', T', t')) : Ci l yX6_pass wsX6_pass ({ frames := 2, cells := 0, slots := 0, locals := 42 } : Room) D cI cJ ([.ref (q 0)] : List Value) (ms cI q o T t ++ (mo cI o s0 u0 M k ++ rs)) r' (ms cI q o T' t' ++ (mo cI o s0 u0 M k ++ rs)) := by
  refine Ci.mk (cc := cX6_pass) (maxL := 3) (ret := (some .boolean)) (by decide) rfl (Nat.le_of_ble_eq_true rfl) ?_
  intro p e s m below meth c A ls B hr hlk hK hN hA hP hD hl
  obtain ⟨hx, hb, hml, hown, hts⟩ := id B
  have hi_X6 : ∀ w ∈ wsX60, w ∈ wsX6_pass := fun _ h => List.mem_cons_of_mem _ (List.mem_append_left _ (List.mem_append_left _ (List.mem_append_right _ (h))))
  have hi_X7 : ∀ w ∈ wsX70, w ∈ wsX6_pass := fun _ h => List.mem_cons_of_mem _ (List.mem_append_left _ (List.mem_append_right _ (h)))
  have hS : va_S A s.heap s.heap [] := va_S.rf
  have hl : lv_has ls 3 [(0, .ref (q 0))] := hl
  unfold fX6_pass at h
  refine lv_iconst (v := 0) hx hb dX6_pass_0 (by decide) ?_
  refine lv_istore_n (lv' := [(1, .int 0), (0, .ref (q 0))]) hx hb dX6_pass_1 rfl hl (by decide) rfl (fun ls hl => ?_)
  have L2_1 : ∀ (n : Nat) (x1_1 : Int32) (T_1 : Nat → Nat → Int32) (t_1 : Nat → Int32) (z1_1 : Int32) (Tz_1 : Nat → Nat → Int32) (tz_1 : Nat → Int32) (_ : lp (fun s => fX6_pass_B2 M k s.1 s.2.1 s.2.2) n (x1_1, T_1, t_1) = some (z1_1, Tz_1, tz_1)) (_ : ∀ (H : Heap) (locs : List Loc) (ls : Array Slot), va_P D vwCl (ms cI q o Tz_1 tz_1 ++ (mo cI o s0 u0 M k ++ rs)) H → va_D A (ms cI q o Tz_1 tz_1 ++ (mo cI o s0 u0 M k ++ rs)) → va_S A s.heap H locs → lv_has ls 3 [(0, .ref (q 0)), (1, .int z1_1)] → W p l e (headSpec wsX6_pass ({ frames := 2, cells := 0, slots := 0, locals := 42 } : Room)).room s m ([.ref (q 0)] : List Value).toArray below meth c H locs (0) (0) (QI below D (ms cI q o T' t' ++ (mo cI o s0 u0 M k ++ rs)) r' ([.ref (q 0)] : List Value).toArray s 0 0 A) (F0 m 55 ls [])) (H : Heap) (locs : List Loc) (ls : Array Slot), va_P D vwCl (ms cI q o T_1 t_1 ++ (mo cI o s0 u0 M k ++ rs)) H → va_D A (ms cI q o T_1 t_1 ++ (mo cI o s0 u0 M k ++ rs)) → va_S A s.heap H locs → lv_has ls 3 [(0, .ref (q 0)), (1, .int x1_1)] → W p l e (headSpec wsX6_pass ({ frames := 2, cells := 0, slots := 0, locals := 42 } : Room)).room s m ([.ref (q 0)] : List Value).toArray below meth c H locs (0) (0) (QI below D (ms cI q o T' t' ++ (mo cI o s0 u0 M k ++ rs)) r' ([.ref (q 0)] : List Value).toArray s 0 0 A) (F0 m 2 ls []) := by
    intro n
    induction n with
    | zero => intro x1_1 T_1 t_1 z1_1 Tz_1 tz_1 h; exact (lp_0 h).elim
    | succ n ih =>
      intro x1_1 T_1 t_1 z1_1 Tz_1 tz_1 h kk H locs ls hP hD hS hl
      obtain ⟨z, h, hz⟩ := lp_walk h
      have h : fX6_pass_B2 M k x1_1 T_1 t_1 = some z := h
      unfold fX6_pass_B2 at h
      refine lv_iload_n hx hb dX6_pass_2 rfl (lv_at hl 1 rfl) ?_
      refine lv_aload_n hx hb dX6_pass_3 rfl (lv_at hl 0 rfl) ?_
      refine va_get (ci := 9) (v := .ref (o 0)) (C := RX6) (T := TX6) (N := 8) hx hb hts hi_X6 hown hK hP 0 rfl rfl 7 (by decide) (hts (.fieldLink RX6 3 "WishWellModel$State" "this$0" "LWishWellModel;") (List.mem_of_getElem? (i := 1) rfl)) (fun _ h9 => h9) rfl dX6_pass_4 ?_
      refine va_getN (own := RX6) (ref := "WishWellModel") (host := "WishWellModel") (index := 66) (ci := 10) (v := .ref (o 3)) (C := RX7) (T := TX7) (N := 15) hx hb hts hi_X7 hown hK hP 5 rfl rfl 4 (by decide) (nF_10 hN) (fun _ h9 => h9) rfl dX6_pass_7 ?_
      refine lv_aload_n hx hb dX6_pass_10 rfl (lv_at hl 0 rfl) ?_
      refine va_get (ci := 9) (v := .int (t_1 0)) (C := RX6) (T := TX6) (N := 8) hx hb hts hi_X6 hown hK hP 0 rfl rfl 0 (by decide) (hts (.fieldLink RX6 38 "WishWellModel$State" "today" "I") (List.mem_of_getElem? (i := 2) rfl)) (fun _ h9 => h9) rfl dX6_pass_11 ?_
      refine lv_bipush (v := 7) hx hb dX6_pass_14 (by decide) ?_
      refine lv_irem hx hb dX6_pass_16 (by decide) ?_
      obtain ⟨c_2, h⟩ := gd_I h
      refine va_iald hx hb hK hP 8 0 rfl rfl c_2 dX6_pass_17 ?_
      refine lv_icmp_ge (tgt := 55) hx hb dX6_pass_18 (by decide) (fun c_3 => ?_) (fun c_3 => ?_)
      · have h := ip_ h c_3
        cases lz_e h hz
        exact kk _ _ _ hP hD hS (lv_sub hl [0, 1] rfl)
      · have h := in_ h c_3
        refine lv_aload_n hx hb dX6_pass_21 rfl (lv_at hl 0 rfl) ?_
        refine va_get (ci := 9) (v := .ref (o 0)) (C := RX6) (T := TX6) (N := 8) hx hb hts hi_X6 hown hK hP 0 rfl rfl 7 (by decide) (hts (.fieldLink RX6 3 "WishWellModel$State" "this$0" "LWishWellModel;") (List.mem_of_getElem? (i := 1) rfl)) (fun _ h9 => h9) rfl dX6_pass_22 ?_
        refine va_getN (own := RX6) (ref := "WishWellModel") (host := "WishWellModel") (index := 69) (ci := 10) (v := .int (k 1)) (C := RX7) (T := TX7) (N := 15) hx hb hts hi_X7 hown hK hP 5 rfl rfl 1 (by decide) (nF_7 hN) (fun _ h9 => h9) rfl dX6_pass_25 ?_
        refine lv_if_le (tgt := 55) hx hb dX6_pass_28 (by decide) (fun c_4 => ?_) (fun c_4 => ?_)
        · have h := ip_ h c_4
          cases lz_e h hz
          exact kk _ _ _ hP hD hS (lv_sub hl [0, 1] rfl)
        · have h := in_ h c_4
          refine lv_aload_n hx hb dX6_pass_31 rfl (lv_at hl 0 rfl) ?_
          refine lv_aload_n hx hb dX6_pass_32 rfl (lv_at hl 0 rfl) ?_
          refine va_get (ci := 9) (v := .int (t_1 0)) (C := RX6) (T := TX6) (N := 8) hx hb hts hi_X6 hown hK hP 0 rfl rfl 0 (by decide) (hts (.fieldLink RX6 38 "WishWellModel$State" "today" "I") (List.mem_of_getElem? (i := 2) rfl)) (fun _ h9 => h9) rfl dX6_pass_33 ?_
          refine lv_iload_n hx hb dX6_pass_36 rfl (lv_at hl 1 rfl) ?_
          refine lv_iadd hx hb dX6_pass_37 ?_
          refine lv_aload_n hx hb dX6_pass_38 rfl (lv_at hl 0 rfl) ?_
          refine va_get (ci := 9) (v := .ref (o 0)) (C := RX6) (T := TX6) (N := 8) hx hb hts hi_X6 hown hK hP 0 rfl rfl 7 (by decide) (hts (.fieldLink RX6 3 "WishWellModel$State" "this$0" "LWishWellModel;") (List.mem_of_getElem? (i := 1) rfl)) (fun _ h9 => h9) rfl dX6_pass_39 ?_
          refine va_getN (own := RX6) (ref := "WishWellModel") (host := "WishWellModel") (index := 69) (ci := 10) (v := .int (k 1)) (C := RX7) (T := TX7) (N := 15) hx hb hts hi_X7 hown hK hP 5 rfl rfl 1 (by decide) (nF_7 hN) (fun _ h9 => h9) rfl dX6_pass_42 ?_
          obtain ⟨c_5, h⟩ := gd_I h
          refine lv_irem hx hb dX6_pass_45 c_5 ?_
          obtain ⟨T_6, t_7, hx_8, h⟩ := b2_I h
          refine kVv (As := [.int (((t_1 0) + x1_1) - ((t_1 0) + x1_1) / (k 1) * (k 1))]) (rest := []) B hK hN hP hD hS hA (c_X6_drop l D cI cJ q o s0 u0 T_1 t_1 M k (((t_1 0) + x1_1) - ((t_1 0) + x1_1) / (k 1) * (k 1)) T_6 t_7 rs hx_8) (cwV 1 hts gX6_pass_X6_drop rfl rfl rfl (by decide +kernel) ⟨(Nat.le_of_ble_eq_true rfl), (Nat.le_of_ble_eq_true rfl)⟩) 9 0 rfl rfl rfl hl.1 rfl (Nat.le_of_ble_eq_true rfl) dX6_pass_46 ⟨(Nat.le_of_ble_eq_true rfl), (Nat.le_of_ble_eq_true rfl)⟩ rfl (fun H locs hP hD hS => ?_)
          refine lv_iinc (v := x1_1 + 1) (lv' := [(1, .int (x1_1 + 1)), (0, .ref (q 0))]) hx hb dX6_pass_49 hl (k := 1) rfl rfl (by decide) rfl (fun ls hl => ?_)
          refine lv_goto (tgt := 2) hx hb dX6_pass_52 (by decide) ?_
          exact ih (x1_1 + 1) T_6 t_7 _ _ _ (lz_c h hz) kk _ _ _ hP hD hS (lv_sub hl [1, 0] rfl)
  obtain ⟨z1_1, Tz_1, tz_1, hl_1, h⟩ := b3_I h
  refine L2_1 10 0 T t z1_1 Tz_1 tz_1 hl_1 (fun H locs ls hP hD hS hl => ?_) _ _ _ hP hD hS (lv_sub hl [1, 0] rfl)
  refine lv_bipush (v := 23) hx hb dX6_pass_55 (by decide) ?_
  refine lv_istore_n (lv' := [(1, .int 23), (0, .ref (q 0))]) hx hb dX6_pass_57 rfl hl (by decide) rfl (fun ls hl => ?_)
  have L58_9 : ∀ (n : Nat) (x1_9 : Int32) (T_9 : Nat → Nat → Int32) (z1_9 : Int32) (Tz_9 : Nat → Nat → Int32) (_ : lp (fun s => fX6_pass_B58 M s.1 s.2) n (x1_9, T_9) = some (z1_9, Tz_9)) (_ : ∀ (H : Heap) (locs : List Loc) (ls : Array Slot), va_P D vwCl (ms cI q o Tz_9 tz_1 ++ (mo cI o s0 u0 M k ++ rs)) H → va_D A (ms cI q o Tz_9 tz_1 ++ (mo cI o s0 u0 M k ++ rs)) → va_S A s.heap H locs → lv_has ls 3 [(0, .ref (q 0)), (1, .int z1_9)] → W p l e (headSpec wsX6_pass ({ frames := 2, cells := 0, slots := 0, locals := 42 } : Room)).room s m ([.ref (q 0)] : List Value).toArray below meth c H locs (0) (0) (QI below D (ms cI q o T' t' ++ (mo cI o s0 u0 M k ++ rs)) r' ([.ref (q 0)] : List Value).toArray s 0 0 A) (F0 m 120 ls [])) (H : Heap) (locs : List Loc) (ls : Array Slot), va_P D vwCl (ms cI q o T_9 tz_1 ++ (mo cI o s0 u0 M k ++ rs)) H → va_D A (ms cI q o T_9 tz_1 ++ (mo cI o s0 u0 M k ++ rs)) → va_S A s.heap H locs → lv_has ls 3 [(0, .ref (q 0)), (1, .int x1_9)] → W p l e (headSpec wsX6_pass ({ frames := 2, cells := 0, slots := 0, locals := 42 } : Room)).room s m ([.ref (q 0)] : List Value).toArray below meth c H locs (0) (0) (QI below D (ms cI q o T' t' ++ (mo cI o s0 u0 M k ++ rs)) r' ([.ref (q 0)] : List Value).toArray s 0 0 A) (F0 m 58 ls []) := by
    intro n
    induction n with
    | zero => intro x1_9 T_9 z1_9 Tz_9 h; exact (lp_0 h).elim
    | succ n ih =>
      intro x1_9 T_9 z1_9 Tz_9 h kk H locs ls hP hD hS hl
      obtain ⟨z, h, hz⟩ := lp_walk h
      have h : fX6_pass_B58 M x1_9 T_9 = some z := h
      unfold fX6_pass_B58 at h
      refine lv_iload_n hx hb dX6_pass_58 rfl (lv_at hl 1 rfl) ?_
      refine lv_if_lt (tgt := 120) hx hb dX6_pass_59 (by decide) (fun c_10 => ?_) (fun c_10 => ?_)
      · have h := ip_ h c_10
        cases lz_e h hz
        exact kk _ _ _ hP hD hS (lv_sub hl [0, 1] rfl)
      · have h := in_ h c_10
        refine lv_aload_n hx hb dX6_pass_62 rfl (lv_at hl 0 rfl) ?_
        refine va_get (ci := 9) (v := .ref (q 1)) (C := RX6) (T := TX6) (N := 8) hx hb hts hi_X6 hown hK hP 0 rfl rfl 3 (by decide) (hts (.fieldLink RX6 19 "WishWellModel$State" "pile" "[I") (List.mem_of_getElem? (i := 3) rfl)) (fun _ h9 => h9) rfl dX6_pass_63 ?_
        refine lv_iload_n hx hb dX6_pass_66 rfl (lv_at hl 1 rfl) ?_
        obtain ⟨c_11, h⟩ := gd_I h
        refine va_iald hx hb hK hP 1 0 rfl rfl c_11 dX6_pass_67 ?_
        refine lv_aload_n hx hb dX6_pass_68 rfl (lv_at hl 0 rfl) ?_
        refine va_get (ci := 9) (v := .ref (o 0)) (C := RX6) (T := TX6) (N := 8) hx hb hts hi_X6 hown hK hP 0 rfl rfl 7 (by decide) (hts (.fieldLink RX6 3 "WishWellModel$State" "this$0" "LWishWellModel;") (List.mem_of_getElem? (i := 1) rfl)) (fun _ h9 => h9) rfl dX6_pass_69 ?_
        refine va_getN (own := RX6) (ref := "WishWellModel") (host := "WishWellModel") (index := 76) (ci := 10) (v := .ref (o 2)) (C := RX7) (T := TX7) (N := 15) hx hb hts hi_X7 hown hK hP 5 rfl rfl 3 (by decide) (nF_9 hN) (fun _ h9 => h9) rfl dX6_pass_72 ?_
        refine lv_iload_n hx hb dX6_pass_75 rfl (lv_at hl 1 rfl) ?_
        refine lv_bipush (v := 6) hx hb dX6_pass_76 (by decide) ?_
        refine lv_irem hx hb dX6_pass_78 (by decide) ?_
        obtain ⟨c_12, h⟩ := gd_I h
        refine va_iald hx hb hK hP 7 0 rfl rfl c_12 dX6_pass_79 ?_
        refine lv_iconst (v := 4) hx hb dX6_pass_80 (by decide) ?_
        refine lv_icmp_lt (tgt := 88) hx hb dX6_pass_81 (by decide) (fun c_13 => ?_) (fun c_13 => ?_)
        · have h := ip_ h c_13
          refine lv_iconst (v := 4) hx hb dX6_pass_88 (by decide) ?_
          refine lv_idiv hx hb dX6_pass_89 (by decide) ?_
          obtain ⟨y2_14, ey2_14, h⟩ := lt_I h
          rw [← ey2_14]
          refine lv_istore_n (lv' := [(2, .int y2_14), (0, .ref (q 0)), (1, .int x1_9)]) hx hb dX6_pass_90 rfl hl (by decide) rfl (fun ls hl => ?_)
          refine lv_aload_n hx hb dX6_pass_91 rfl (lv_at hl 1 rfl) ?_
          refine va_get (ci := 9) (v := .ref (q 1)) (C := RX6) (T := TX6) (N := 8) hx hb hts hi_X6 hown hK hP 0 rfl rfl 3 (by decide) (hts (.fieldLink RX6 19 "WishWellModel$State" "pile" "[I") (List.mem_of_getElem? (i := 3) rfl)) (fun _ h9 => h9) rfl dX6_pass_92 ?_
          refine lv_iload_n hx hb dX6_pass_95 rfl (lv_at hl 2 rfl) ?_
          refine lv_dup2_11 hx hb dX6_pass_96 rfl rfl ?_
          obtain ⟨c_15, h⟩ := gd_I h
          refine va_iald hx hb hK hP 1 0 rfl rfl c_15 dX6_pass_97 ?_
          refine lv_iload_n hx hb dX6_pass_98 rfl (lv_at hl 0 rfl) ?_
          refine lv_isub hx hb dX6_pass_99 ?_
          obtain ⟨c_16, h⟩ := gd_I h
          refine va_iast hx hb hK hP hD hS 1 0 rfl rfl c_16 dX6_pass_100 (fun H locs hP hD hS => ?_)
          obtain ⟨T_17, eT_17, h⟩ := lt_I h
          have hP : va_P D vwCl (ms cI q o T_17 tz_1 ++ (mo cI o s0 u0 M k ++ rs)) H := by rw [eT_17]; exact hP
          have hD : va_D A (ms cI q o T_17 tz_1 ++ (mo cI o s0 u0 M k ++ rs)) := by rw [eT_17]; exact hD
          refine lv_aload_n hx hb dX6_pass_101 rfl (lv_at hl 1 rfl) ?_
          refine va_get (ci := 9) (v := .ref (q 1)) (C := RX6) (T := TX6) (N := 8) hx hb hts hi_X6 hown hK hP 0 rfl rfl 3 (by decide) (hts (.fieldLink RX6 19 "WishWellModel$State" "pile" "[I") (List.mem_of_getElem? (i := 3) rfl)) (fun _ h9 => h9) rfl dX6_pass_102 ?_
          refine lv_iload_n hx hb dX6_pass_105 rfl (lv_at hl 2 rfl) ?_
          refine lv_bipush (v := 6) hx hb dX6_pass_106 (by decide) ?_
          refine lv_iadd hx hb dX6_pass_108 ?_
          refine lv_dup2_11 hx hb dX6_pass_109 rfl rfl ?_
          obtain ⟨c_18, h⟩ := gd_I h
          refine va_iald hx hb hK hP 1 0 rfl rfl c_18 dX6_pass_110 ?_
          refine lv_iload_n hx hb dX6_pass_111 rfl (lv_at hl 0 rfl) ?_
          refine lv_iadd hx hb dX6_pass_112 ?_
          obtain ⟨c_19, h⟩ := gd_I h
          refine va_iast hx hb hK hP hD hS 1 0 rfl rfl c_19 dX6_pass_113 (fun H locs hP hD hS => ?_)
          obtain ⟨T_20, eT_20, h⟩ := lt_I h
          have hP : va_P D vwCl (ms cI q o T_20 tz_1 ++ (mo cI o s0 u0 M k ++ rs)) H := by rw [eT_20]; exact hP
          have hD : va_D A (ms cI q o T_20 tz_1 ++ (mo cI o s0 u0 M k ++ rs)) := by rw [eT_20]; exact hD
          refine lv_iinc (v := x1_9 + (-1)) (lv' := [(1, .int (x1_9 + (-1))), (2, .int y2_14), (0, .ref (q 0))]) hx hb dX6_pass_114 hl (k := 2) rfl (congrArg (fun z => x1_9 + z) (by decide)) (by decide) rfl (fun ls hl => ?_)
          refine lv_goto (tgt := 58) hx hb dX6_pass_117 (by decide) ?_
          exact ih (x1_9 + (-1)) T_20 _ _ (lz_c h hz) kk _ _ _ hP hD hS (lv_sub hl [2, 0] rfl)
        · have h := in_ h c_13
          refine lv_iconst (v := 2) hx hb dX6_pass_84 (by decide) ?_
          refine lv_goto (tgt := 89) hx hb dX6_pass_85 (by decide) ?_
          refine lv_idiv hx hb dX6_pass_89 (by decide) ?_
          obtain ⟨y2_21, ey2_21, h⟩ := lt_I h
          rw [← ey2_21]
          refine lv_istore_n (lv' := [(2, .int y2_21), (0, .ref (q 0)), (1, .int x1_9)]) hx hb dX6_pass_90 rfl hl (by decide) rfl (fun ls hl => ?_)
          refine lv_aload_n hx hb dX6_pass_91 rfl (lv_at hl 1 rfl) ?_
          refine va_get (ci := 9) (v := .ref (q 1)) (C := RX6) (T := TX6) (N := 8) hx hb hts hi_X6 hown hK hP 0 rfl rfl 3 (by decide) (hts (.fieldLink RX6 19 "WishWellModel$State" "pile" "[I") (List.mem_of_getElem? (i := 3) rfl)) (fun _ h9 => h9) rfl dX6_pass_92 ?_
          refine lv_iload_n hx hb dX6_pass_95 rfl (lv_at hl 2 rfl) ?_
          refine lv_dup2_11 hx hb dX6_pass_96 rfl rfl ?_
          obtain ⟨c_22, h⟩ := gd_I h
          refine va_iald hx hb hK hP 1 0 rfl rfl c_22 dX6_pass_97 ?_
          refine lv_iload_n hx hb dX6_pass_98 rfl (lv_at hl 0 rfl) ?_
          refine lv_isub hx hb dX6_pass_99 ?_
          obtain ⟨c_23, h⟩ := gd_I h
          refine va_iast hx hb hK hP hD hS 1 0 rfl rfl c_23 dX6_pass_100 (fun H locs hP hD hS => ?_)
          obtain ⟨T_24, eT_24, h⟩ := lt_I h
          have hP : va_P D vwCl (ms cI q o T_24 tz_1 ++ (mo cI o s0 u0 M k ++ rs)) H := by rw [eT_24]; exact hP
          have hD : va_D A (ms cI q o T_24 tz_1 ++ (mo cI o s0 u0 M k ++ rs)) := by rw [eT_24]; exact hD
          refine lv_aload_n hx hb dX6_pass_101 rfl (lv_at hl 1 rfl) ?_
          refine va_get (ci := 9) (v := .ref (q 1)) (C := RX6) (T := TX6) (N := 8) hx hb hts hi_X6 hown hK hP 0 rfl rfl 3 (by decide) (hts (.fieldLink RX6 19 "WishWellModel$State" "pile" "[I") (List.mem_of_getElem? (i := 3) rfl)) (fun _ h9 => h9) rfl dX6_pass_102 ?_
          refine lv_iload_n hx hb dX6_pass_105 rfl (lv_at hl 2 rfl) ?_
          refine lv_bipush (v := 6) hx hb dX6_pass_106 (by decide) ?_
          refine lv_iadd hx hb dX6_pass_108 ?_
          refine lv_dup2_11 hx hb dX6_pass_109 rfl rfl ?_
          obtain ⟨c_25, h⟩ := gd_I h
          refine va_iald hx hb hK hP 1 0 rfl rfl c_25 dX6_pass_110 ?_
          refine lv_iload_n hx hb dX6_pass_111 rfl (lv_at hl 0 rfl) ?_
          refine lv_iadd hx hb dX6_pass_112 ?_
          obtain ⟨c_26, h⟩ := gd_I h
          refine va_iast hx hb hK hP hD hS 1 0 rfl rfl c_26 dX6_pass_113 (fun H locs hP hD hS => ?_)
          obtain ⟨T_27, eT_27, h⟩ := lt_I h
          have hP : va_P D vwCl (ms cI q o T_27 tz_1 ++ (mo cI o s0 u0 M k ++ rs)) H := by rw [eT_27]; exact hP
          have hD : va_D A (ms cI q o T_27 tz_1 ++ (mo cI o s0 u0 M k ++ rs)) := by rw [eT_27]; exact hD
          refine lv_iinc (v := x1_9 + (-1)) (lv' := [(1, .int (x1_9 + (-1))), (2, .int y2_21), (0, .ref (q 0))]) hx hb dX6_pass_114 hl (k := 2) rfl (congrArg (fun z => x1_9 + z) (by decide)) (by decide) rfl (fun ls hl => ?_)
          refine lv_goto (tgt := 58) hx hb dX6_pass_117 (by decide) ?_
          exact ih (x1_9 + (-1)) T_27 _ _ (lz_c h hz) kk _ _ _ hP hD hS (lv_sub hl [2, 0] rfl)
  obtain ⟨z1_9, Tz_9, hl_9, h⟩ := b2_I h
  refine L58_9 25 23 Tz_1 z1_9 Tz_9 hl_9 (fun H locs ls hP hD hS hl => ?_) _ _ _ hP hD hS (lv_sub hl [1, 0] rfl)
  refine lv_aload_n hx hb dX6_pass_120 rfl (lv_at hl 0 rfl) ?_
  refine lv_aload_n hx hb dX6_pass_121 rfl (lv_at hl 0 rfl) ?_
  refine va_get (ci := 9) (v := .int (tz_1 2)) (C := RX6) (T := TX6) (N := 8) hx hb hts hi_X6 hown hK hP 0 rfl rfl 2 (by decide) (hts (.fieldLink RX6 41 "WishWellModel$State" "turn" "I") (List.mem_of_getElem? (i := 4) rfl)) (fun _ h9 => h9) rfl dX6_pass_122 ?_
  obtain ⟨r_28, hx_29, h⟩ := bd_I h
  refine kVi (As := [.int (tz_1 2)]) (rest := []) B hK hN hP hD hS hA (c_X6_next l D cI cJ q o s0 u0 Tz_9 tz_1 M k (tz_1 2) r_28 rs hx_29) (cwV 1 hts gX6_pass_X6_next rfl rfl rfl (by decide +kernel) ⟨(Nat.le_of_ble_eq_true rfl), (Nat.le_of_ble_eq_true rfl)⟩) 9 0 rfl rfl rfl hl.1 rfl (Nat.le_of_ble_eq_true rfl) dX6_pass_125 ⟨(Nat.le_of_ble_eq_true rfl), (Nat.le_of_ble_eq_true rfl)⟩ rfl (fun H locs hP hD hS => ?_)
  refine lv_istore_n (lv' := [(1, .int r_28), (0, .ref (q 0))]) hx hb dX6_pass_128 rfl hl (by decide) rfl (fun ls hl => ?_)
  refine lv_iload_n hx hb dX6_pass_129 rfl (lv_at hl 0 rfl) ?_
  refine lv_iconst (v := (-1)) hx hb dX6_pass_130 (by decide) ?_
  refine lv_icmp_eq (tgt := 165) hx hb dX6_pass_131 (by decide) (fun c_30 => ?_) (fun c_30 => ?_)
  · have h := ip_ h c_30
    refine lv_iconst (v := 0) hx hb dX6_pass_165 (by decide) ?_
    refine lv_istore_n (lv' := [(2, .int 0), (1, .int r_28), (0, .ref (q 0))]) hx hb dX6_pass_166 rfl hl (by decide) rfl (fun ls hl => ?_)
    refine lv_iload_n hx hb dX6_pass_167 rfl (lv_at hl 0 rfl) ?_
    refine lv_if_eq (tgt := 220) hx hb dX6_pass_168 (by decide) (fun _ => ?_) (fun c_31 => absurd (by decide) c_31)
    refine lv_aload_n hx hb dX6_pass_220 rfl (lv_at hl 2 rfl) ?_
    refine lv_sipush (v := 500) hx hb dX6_pass_221 (by decide) ?_
    refine lv_aload_n hx hb dX6_pass_224 rfl (lv_at hl 2 rfl) ?_
    refine va_get (ci := 9) (v := .int (tz_1 1)) (C := RX6) (T := TX6) (N := 8) hx hb hts hi_X6 hown hK hP 0 rfl rfl 1 (by decide) (hts (.fieldLink RX6 15 "WishWellModel$State" "favour" "I") (List.mem_of_getElem? (i := 5) rfl)) (fun _ h9 => h9) rfl dX6_pass_225 ?_
    refine lv_iconst (v := 2) hx hb dX6_pass_228 (by decide) ?_
    refine lv_iadd hx hb dX6_pass_229 ?_
    refine va_mmin hx hb (hml.trans hl.1.symm) hown (hts (.methodLink RX6 51 Lib.Math.min.name) (List.mem_of_getElem? (i := 8) rfl)) (hts (.static Lib.Math.min.name) (List.mem_of_getElem? (i := 9) rfl)) (hts (.initialized "java/lang/Math") (List.mem_of_getElem? (i := 10) rfl)) (hts (.code Lib.Math.min.name Lib.Math.min.code 2 (some .int)) (List.mem_of_getElem? (i := 11) rfl)) (Nat.le_of_ble_eq_true rfl) (Nat.le_of_ble_eq_true rfl) (Nat.le_of_ble_eq_true rfl) (Nat.le_of_ble_eq_true rfl) dX6_pass_230 ?_
    refine va_put (D := D) (ci := 9) (v := .int (if ((tz_1 1) + 2) < 500 then (tz_1 1) + 2 else 500)) (ty := .int) (C := RX6) (T := TX6) (N := 8) hx hb hts hi_X6 tyX6 tyX6_ok nmX6 hown hK hP hD hS 0 rfl rfl 1 (by decide) (hts (.fieldLink RX6 15 "WishWellModel$State" "favour" "I") (List.mem_of_getElem? (i := 5) rfl)) (fun _ h9 => h9) rfl (by decide +kernel) rfl rfl (Nat.le_of_ble_eq_true rfl) dX6_pass_233 (fun H locs hP hD hS => ?_)
    obtain ⟨t_32, et_32, h⟩ := lt_I h
    have hP : va_P D vwCl (ms cI q o Tz_9 t_32 ++ (mo cI o s0 u0 M k ++ rs)) H := by rw [et_32]; exact hP
    have hD : va_D A (ms cI q o Tz_9 t_32 ++ (mo cI o s0 u0 M k ++ rs)) := by rw [et_32]; exact hD
    refine lv_aload_n hx hb dX6_pass_236 rfl (lv_at hl 2 rfl) ?_
    refine lv_aload_n hx hb dX6_pass_237 rfl (lv_at hl 2 rfl) ?_
    refine va_get (ci := 9) (v := .int (t_32 2)) (C := RX6) (T := TX6) (N := 8) hx hb hts hi_X6 hown hK hP 0 rfl rfl 2 (by decide) (hts (.fieldLink RX6 41 "WishWellModel$State" "turn" "I") (List.mem_of_getElem? (i := 4) rfl)) (fun _ h9 => h9) rfl dX6_pass_238 ?_
    refine lv_iconst (v := 1) hx hb dX6_pass_241 (by decide) ?_
    refine lv_iadd hx hb dX6_pass_242 ?_
    refine lv_iconst (v := 4) hx hb dX6_pass_243 (by decide) ?_
    refine lv_irem hx hb dX6_pass_244 (by decide) ?_
    refine va_put (D := D) (ci := 9) (v := .int (((t_32 2) + 1) - ((t_32 2) + 1) / 4 * 4)) (ty := .int) (C := RX6) (T := TX6) (N := 8) hx hb hts hi_X6 tyX6 tyX6_ok nmX6 hown hK hP hD hS 0 rfl rfl 2 (by decide) (hts (.fieldLink RX6 41 "WishWellModel$State" "turn" "I") (List.mem_of_getElem? (i := 4) rfl)) (fun _ h9 => h9) rfl (by decide +kernel) rfl rfl (Nat.le_of_ble_eq_true rfl) dX6_pass_245 (fun H locs hP hD hS => ?_)
    obtain ⟨t_33, et_33, h⟩ := lt_I h
    have hP : va_P D vwCl (ms cI q o Tz_9 t_33 ++ (mo cI o s0 u0 M k ++ rs)) H := by rw [et_33]; exact hP
    have hD : va_D A (ms cI q o Tz_9 t_33 ++ (mo cI o s0 u0 M k ++ rs)) := by rw [et_33]; exact hD
    refine lv_aload_n hx hb dX6_pass_248 rfl (lv_at hl 2 rfl) ?_
    refine lv_dup hx hb dX6_pass_249 rfl ?_
    refine va_get (ci := 9) (v := .int (t_33 0)) (C := RX6) (T := TX6) (N := 8) hx hb hts hi_X6 hown hK hP 0 rfl rfl 0 (by decide) (hts (.fieldLink RX6 38 "WishWellModel$State" "today" "I") (List.mem_of_getElem? (i := 2) rfl)) (fun _ h9 => h9) rfl dX6_pass_250 ?_
    refine lv_iconst (v := 1) hx hb dX6_pass_253 (by decide) ?_
    refine lv_iadd hx hb dX6_pass_254 ?_
    refine va_put (D := D) (ci := 9) (v := .int ((t_33 0) + 1)) (ty := .int) (C := RX6) (T := TX6) (N := 8) hx hb hts hi_X6 tyX6 tyX6_ok nmX6 hown hK hP hD hS 0 rfl rfl 0 (by decide) (hts (.fieldLink RX6 38 "WishWellModel$State" "today" "I") (List.mem_of_getElem? (i := 2) rfl)) (fun _ h9 => h9) rfl (by decide +kernel) rfl rfl (Nat.le_of_ble_eq_true rfl) dX6_pass_255 (fun H locs hP hD hS => ?_)
    obtain ⟨t_34, et_34, h⟩ := lt_I h
    have hP : va_P D vwCl (ms cI q o Tz_9 t_34 ++ (mo cI o s0 u0 M k ++ rs)) H := by rw [et_34]; exact hP
    have hD : va_D A (ms cI q o Tz_9 t_34 ++ (mo cI o s0 u0 M k ++ rs)) := by rw [et_34]; exact hD
    refine lv_iload_n hx hb dX6_pass_258 rfl (lv_at hl 0 rfl) ?_
    obtain ⟨h0, h1, h2⟩ := o3 h
    exact eZ hx hb hr nar0 hlk hP hS dX6_pass_259 (Nat.le_of_ble_eq_true rfl) (Nat.le_of_ble_eq_true rfl) h0 (by rw [h1, h2])
  · have h := in_ h c_30
    refine lv_aload_n hx hb dX6_pass_134 rfl (lv_at hl 1 rfl) ?_
    refine va_get (ci := 9) (v := .int (tz_1 1)) (C := RX6) (T := TX6) (N := 8) hx hb hts hi_X6 hown hK hP 0 rfl rfl 1 (by decide) (hts (.fieldLink RX6 15 "WishWellModel$State" "favour" "I") (List.mem_of_getElem? (i := 5) rfl)) (fun _ h9 => h9) rfl dX6_pass_135 ?_
    refine lv_bipush (v := 10) hx hb dX6_pass_138 (by decide) ?_
    refine lv_aload_n hx hb dX6_pass_140 rfl (lv_at hl 1 rfl) ?_
    refine va_get (ci := 9) (v := .ref (o 0)) (C := RX6) (T := TX6) (N := 8) hx hb hts hi_X6 hown hK hP 0 rfl rfl 7 (by decide) (hts (.fieldLink RX6 3 "WishWellModel$State" "this$0" "LWishWellModel;") (List.mem_of_getElem? (i := 1) rfl)) (fun _ h9 => h9) rfl dX6_pass_141 ?_
    refine va_getN (own := RX6) (ref := "WishWellModel") (host := "WishWellModel") (index := 48) (ci := 10) (v := .ref (o 1)) (C := RX7) (T := TX7) (N := 15) hx hb hts hi_X7 hown hK hP 5 rfl rfl 2 (by decide) (nF_8 hN) (fun _ h9 => h9) rfl dX6_pass_144 ?_
    refine lv_aload_n hx hb dX6_pass_147 rfl (lv_at hl 1 rfl) ?_
    refine va_get (ci := 9) (v := .ref (o 0)) (C := RX6) (T := TX6) (N := 8) hx hb hts hi_X6 hown hK hP 0 rfl rfl 7 (by decide) (hts (.fieldLink RX6 3 "WishWellModel$State" "this$0" "LWishWellModel;") (List.mem_of_getElem? (i := 1) rfl)) (fun _ h9 => h9) rfl dX6_pass_148 ?_
    refine va_getN (own := RX6) (ref := "WishWellModel") (host := "WishWellModel") (index := 63) (ci := 10) (v := .ref (o 7)) (C := RX7) (T := TX7) (N := 15) hx hb hts hi_X7 hown hK hP 5 rfl rfl 9 (by decide) (nF_13 hN) (fun _ h9 => h9) rfl dX6_pass_151 ?_
    refine lv_iload_n hx hb dX6_pass_154 rfl (lv_at hl 0 rfl) ?_
    obtain ⟨c_35, h⟩ := gd_I h
    refine va_iald hx hb hK hP 12 0 rfl rfl c_35 dX6_pass_155 ?_
    obtain ⟨c_36, h⟩ := gd_I h
    refine va_iald hx hb hK hP 6 0 rfl rfl c_36 dX6_pass_156 ?_
    refine lv_iadd hx hb dX6_pass_157 ?_
    refine lv_icmp_lt (tgt := 165) hx hb dX6_pass_158 (by decide) (fun c_37 => ?_) (fun c_37 => ?_)
    · have h := ip_ h c_37
      refine lv_iconst (v := 0) hx hb dX6_pass_165 (by decide) ?_
      refine lv_istore_n (lv' := [(2, .int 0), (1, .int r_28), (0, .ref (q 0))]) hx hb dX6_pass_166 rfl hl (by decide) rfl (fun ls hl => ?_)
      refine lv_iload_n hx hb dX6_pass_167 rfl (lv_at hl 0 rfl) ?_
      refine lv_if_eq (tgt := 220) hx hb dX6_pass_168 (by decide) (fun _ => ?_) (fun c_38 => absurd (by decide) c_38)
      refine lv_aload_n hx hb dX6_pass_220 rfl (lv_at hl 2 rfl) ?_
      refine lv_sipush (v := 500) hx hb dX6_pass_221 (by decide) ?_
      refine lv_aload_n hx hb dX6_pass_224 rfl (lv_at hl 2 rfl) ?_
      refine va_get (ci := 9) (v := .int (tz_1 1)) (C := RX6) (T := TX6) (N := 8) hx hb hts hi_X6 hown hK hP 0 rfl rfl 1 (by decide) (hts (.fieldLink RX6 15 "WishWellModel$State" "favour" "I") (List.mem_of_getElem? (i := 5) rfl)) (fun _ h9 => h9) rfl dX6_pass_225 ?_
      refine lv_iconst (v := 2) hx hb dX6_pass_228 (by decide) ?_
      refine lv_iadd hx hb dX6_pass_229 ?_
      refine va_mmin hx hb (hml.trans hl.1.symm) hown (hts (.methodLink RX6 51 Lib.Math.min.name) (List.mem_of_getElem? (i := 8) rfl)) (hts (.static Lib.Math.min.name) (List.mem_of_getElem? (i := 9) rfl)) (hts (.initialized "java/lang/Math") (List.mem_of_getElem? (i := 10) rfl)) (hts (.code Lib.Math.min.name Lib.Math.min.code 2 (some .int)) (List.mem_of_getElem? (i := 11) rfl)) (Nat.le_of_ble_eq_true rfl) (Nat.le_of_ble_eq_true rfl) (Nat.le_of_ble_eq_true rfl) (Nat.le_of_ble_eq_true rfl) dX6_pass_230 ?_
      refine va_put (D := D) (ci := 9) (v := .int (if ((tz_1 1) + 2) < 500 then (tz_1 1) + 2 else 500)) (ty := .int) (C := RX6) (T := TX6) (N := 8) hx hb hts hi_X6 tyX6 tyX6_ok nmX6 hown hK hP hD hS 0 rfl rfl 1 (by decide) (hts (.fieldLink RX6 15 "WishWellModel$State" "favour" "I") (List.mem_of_getElem? (i := 5) rfl)) (fun _ h9 => h9) rfl (by decide +kernel) rfl rfl (Nat.le_of_ble_eq_true rfl) dX6_pass_233 (fun H locs hP hD hS => ?_)
      obtain ⟨t_39, et_39, h⟩ := lt_I h
      have hP : va_P D vwCl (ms cI q o Tz_9 t_39 ++ (mo cI o s0 u0 M k ++ rs)) H := by rw [et_39]; exact hP
      have hD : va_D A (ms cI q o Tz_9 t_39 ++ (mo cI o s0 u0 M k ++ rs)) := by rw [et_39]; exact hD
      refine lv_aload_n hx hb dX6_pass_236 rfl (lv_at hl 2 rfl) ?_
      refine lv_aload_n hx hb dX6_pass_237 rfl (lv_at hl 2 rfl) ?_
      refine va_get (ci := 9) (v := .int (t_39 2)) (C := RX6) (T := TX6) (N := 8) hx hb hts hi_X6 hown hK hP 0 rfl rfl 2 (by decide) (hts (.fieldLink RX6 41 "WishWellModel$State" "turn" "I") (List.mem_of_getElem? (i := 4) rfl)) (fun _ h9 => h9) rfl dX6_pass_238 ?_
      refine lv_iconst (v := 1) hx hb dX6_pass_241 (by decide) ?_
      refine lv_iadd hx hb dX6_pass_242 ?_
      refine lv_iconst (v := 4) hx hb dX6_pass_243 (by decide) ?_
      refine lv_irem hx hb dX6_pass_244 (by decide) ?_
      refine va_put (D := D) (ci := 9) (v := .int (((t_39 2) + 1) - ((t_39 2) + 1) / 4 * 4)) (ty := .int) (C := RX6) (T := TX6) (N := 8) hx hb hts hi_X6 tyX6 tyX6_ok nmX6 hown hK hP hD hS 0 rfl rfl 2 (by decide) (hts (.fieldLink RX6 41 "WishWellModel$State" "turn" "I") (List.mem_of_getElem? (i := 4) rfl)) (fun _ h9 => h9) rfl (by decide +kernel) rfl rfl (Nat.le_of_ble_eq_true rfl) dX6_pass_245 (fun H locs hP hD hS => ?_)
      obtain ⟨t_40, et_40, h⟩ := lt_I h
      have hP : va_P D vwCl (ms cI q o Tz_9 t_40 ++ (mo cI o s0 u0 M k ++ rs)) H := by rw [et_40]; exact hP
      have hD : va_D A (ms cI q o Tz_9 t_40 ++ (mo cI o s0 u0 M k ++ rs)) := by rw [et_40]; exact hD
      refine lv_aload_n hx hb dX6_pass_248 rfl (lv_at hl 2 rfl) ?_
      refine lv_dup hx hb dX6_pass_249 rfl ?_
      refine va_get (ci := 9) (v := .int (t_40 0)) (C := RX6) (T := TX6) (N := 8) hx hb hts hi_X6 hown hK hP 0 rfl rfl 0 (by decide) (hts (.fieldLink RX6 38 "WishWellModel$State" "today" "I") (List.mem_of_getElem? (i := 2) rfl)) (fun _ h9 => h9) rfl dX6_pass_250 ?_
      refine lv_iconst (v := 1) hx hb dX6_pass_253 (by decide) ?_
      refine lv_iadd hx hb dX6_pass_254 ?_
      refine va_put (D := D) (ci := 9) (v := .int ((t_40 0) + 1)) (ty := .int) (C := RX6) (T := TX6) (N := 8) hx hb hts hi_X6 tyX6 tyX6_ok nmX6 hown hK hP hD hS 0 rfl rfl 0 (by decide) (hts (.fieldLink RX6 38 "WishWellModel$State" "today" "I") (List.mem_of_getElem? (i := 2) rfl)) (fun _ h9 => h9) rfl (by decide +kernel) rfl rfl (Nat.le_of_ble_eq_true rfl) dX6_pass_255 (fun H locs hP hD hS => ?_)
      obtain ⟨t_41, et_41, h⟩ := lt_I h
      have hP : va_P D vwCl (ms cI q o Tz_9 t_41 ++ (mo cI o s0 u0 M k ++ rs)) H := by rw [et_41]; exact hP
      have hD : va_D A (ms cI q o Tz_9 t_41 ++ (mo cI o s0 u0 M k ++ rs)) := by rw [et_41]; exact hD
      refine lv_iload_n hx hb dX6_pass_258 rfl (lv_at hl 0 rfl) ?_
      obtain ⟨h0, h1, h2⟩ := o3 h
      exact eZ hx hb hr nar0 hlk hP hS dX6_pass_259 (Nat.le_of_ble_eq_true rfl) (Nat.le_of_ble_eq_true rfl) h0 (by rw [h1, h2])
    · have h := in_ h c_37
      refine lv_iconst (v := 1) hx hb dX6_pass_161 (by decide) ?_
      refine lv_goto (tgt := 166) hx hb dX6_pass_162 (by decide) ?_
      refine lv_istore_n (lv' := [(2, .int 1), (1, .int r_28), (0, .ref (q 0))]) hx hb dX6_pass_166 rfl hl (by decide) rfl (fun ls hl => ?_)
      refine lv_iload_n hx hb dX6_pass_167 rfl (lv_at hl 0 rfl) ?_
      refine lv_if_eq (tgt := 220) hx hb dX6_pass_168 (by decide) (fun c_42 => absurd c_42 (by decide)) (fun _ => ?_)
      refine lv_aload_n hx hb dX6_pass_171 rfl (lv_at hl 2 rfl) ?_
      refine lv_dup hx hb dX6_pass_172 rfl ?_
      refine va_get (ci := 9) (v := .int (tz_1 1)) (C := RX6) (T := TX6) (N := 8) hx hb hts hi_X6 hown hK hP 0 rfl rfl 1 (by decide) (hts (.fieldLink RX6 15 "WishWellModel$State" "favour" "I") (List.mem_of_getElem? (i := 5) rfl)) (fun _ h9 => h9) rfl dX6_pass_173 ?_
      refine lv_bipush (v := 10) hx hb dX6_pass_176 (by decide) ?_
      refine lv_aload_n hx hb dX6_pass_178 rfl (lv_at hl 2 rfl) ?_
      refine va_get (ci := 9) (v := .ref (o 0)) (C := RX6) (T := TX6) (N := 8) hx hb hts hi_X6 hown hK hP 0 rfl rfl 7 (by decide) (hts (.fieldLink RX6 3 "WishWellModel$State" "this$0" "LWishWellModel;") (List.mem_of_getElem? (i := 1) rfl)) (fun _ h9 => h9) rfl dX6_pass_179 ?_
      refine va_getN (own := RX6) (ref := "WishWellModel") (host := "WishWellModel") (index := 48) (ci := 10) (v := .ref (o 1)) (C := RX7) (T := TX7) (N := 15) hx hb hts hi_X7 hown hK hP 5 rfl rfl 2 (by decide) (nF_8 hN) (fun _ h9 => h9) rfl dX6_pass_182 ?_
      refine lv_aload_n hx hb dX6_pass_185 rfl (lv_at hl 2 rfl) ?_
      refine va_get (ci := 9) (v := .ref (o 0)) (C := RX6) (T := TX6) (N := 8) hx hb hts hi_X6 hown hK hP 0 rfl rfl 7 (by decide) (hts (.fieldLink RX6 3 "WishWellModel$State" "this$0" "LWishWellModel;") (List.mem_of_getElem? (i := 1) rfl)) (fun _ h9 => h9) rfl dX6_pass_186 ?_
      refine va_getN (own := RX6) (ref := "WishWellModel") (host := "WishWellModel") (index := 63) (ci := 10) (v := .ref (o 7)) (C := RX7) (T := TX7) (N := 15) hx hb hts hi_X7 hown hK hP 5 rfl rfl 9 (by decide) (nF_13 hN) (fun _ h9 => h9) rfl dX6_pass_189 ?_
      refine lv_iload_n hx hb dX6_pass_192 rfl (lv_at hl 1 rfl) ?_
      obtain ⟨c_43, h⟩ := gd_I h
      refine va_iald hx hb hK hP 12 0 rfl rfl c_43 dX6_pass_193 ?_
      obtain ⟨c_44, h⟩ := gd_I h
      refine va_iald hx hb hK hP 6 0 rfl rfl c_44 dX6_pass_194 ?_
      refine lv_iadd hx hb dX6_pass_195 ?_
      refine lv_isub hx hb dX6_pass_196 ?_
      refine va_put (D := D) (ci := 9) (v := .int ((tz_1 1) - (10 + (M 0 (Int32.toNatClampNeg (M 6 (Int32.toNatClampNeg r_28))))))) (ty := .int) (C := RX6) (T := TX6) (N := 8) hx hb hts hi_X6 tyX6 tyX6_ok nmX6 hown hK hP hD hS 0 rfl rfl 1 (by decide) (hts (.fieldLink RX6 15 "WishWellModel$State" "favour" "I") (List.mem_of_getElem? (i := 5) rfl)) (fun _ h9 => h9) rfl (by decide +kernel) rfl rfl (Nat.le_of_ble_eq_true rfl) dX6_pass_197 (fun H locs hP hD hS => ?_)
      obtain ⟨t_45, et_45, h⟩ := lt_I h
      have hP : va_P D vwCl (ms cI q o Tz_9 t_45 ++ (mo cI o s0 u0 M k ++ rs)) H := by rw [et_45]; exact hP
      have hD : va_D A (ms cI q o Tz_9 t_45 ++ (mo cI o s0 u0 M k ++ rs)) := by rw [et_45]; exact hD
      refine lv_aload_n hx hb dX6_pass_200 rfl (lv_at hl 2 rfl) ?_
      refine va_get (ci := 9) (v := .ref (q 3)) (C := RX6) (T := TX6) (N := 8) hx hb hts hi_X6 hown hK hP 0 rfl rfl 5 (by decide) (hts (.fieldLink RX6 26 "WishWellModel$State" "how" "[I") (List.mem_of_getElem? (i := 6) rfl)) (fun _ h9 => h9) rfl dX6_pass_201 ?_
      refine lv_iload_n hx hb dX6_pass_204 rfl (lv_at hl 1 rfl) ?_
      refine lv_iconst (v := 1) hx hb dX6_pass_205 (by decide) ?_
      obtain ⟨c_46, h⟩ := gd_I h
      refine va_iast hx hb hK hP hD hS 3 0 rfl rfl c_46 dX6_pass_206 (fun H locs hP hD hS => ?_)
      obtain ⟨T_47, eT_47, h⟩ := lt_I h
      have hP : va_P D vwCl (ms cI q o T_47 t_45 ++ (mo cI o s0 u0 M k ++ rs)) H := by rw [eT_47]; exact hP
      have hD : va_D A (ms cI q o T_47 t_45 ++ (mo cI o s0 u0 M k ++ rs)) := by rw [eT_47]; exact hD
      refine lv_aload_n hx hb dX6_pass_207 rfl (lv_at hl 2 rfl) ?_
      refine va_get (ci := 9) (v := .ref (q 4)) (C := RX6) (T := TX6) (N := 8) hx hb hts hi_X6 hown hK hP 0 rfl rfl 6 (by decide) (hts (.fieldLink RX6 29 "WishWellModel$State" "when" "[I") (List.mem_of_getElem? (i := 7) rfl)) (fun _ h9 => h9) rfl dX6_pass_208 ?_
      refine lv_iload_n hx hb dX6_pass_211 rfl (lv_at hl 1 rfl) ?_
      refine lv_aload_n hx hb dX6_pass_212 rfl (lv_at hl 2 rfl) ?_
      refine va_get (ci := 9) (v := .int (t_45 0)) (C := RX6) (T := TX6) (N := 8) hx hb hts hi_X6 hown hK hP 0 rfl rfl 0 (by decide) (hts (.fieldLink RX6 38 "WishWellModel$State" "today" "I") (List.mem_of_getElem? (i := 2) rfl)) (fun _ h9 => h9) rfl dX6_pass_213 ?_
      obtain ⟨c_48, h⟩ := gd_I h
      refine va_iast hx hb hK hP hD hS 4 0 rfl rfl c_48 dX6_pass_216 (fun H locs hP hD hS => ?_)
      obtain ⟨T_49, eT_49, h⟩ := lt_I h
      have hP : va_P D vwCl (ms cI q o T_49 t_45 ++ (mo cI o s0 u0 M k ++ rs)) H := by rw [eT_49]; exact hP
      have hD : va_D A (ms cI q o T_49 t_45 ++ (mo cI o s0 u0 M k ++ rs)) := by rw [eT_49]; exact hD
      refine lv_goto (tgt := 236) hx hb dX6_pass_217 (by decide) ?_
      refine lv_aload_n hx hb dX6_pass_236 rfl (lv_at hl 2 rfl) ?_
      refine lv_aload_n hx hb dX6_pass_237 rfl (lv_at hl 2 rfl) ?_
      refine va_get (ci := 9) (v := .int (t_45 2)) (C := RX6) (T := TX6) (N := 8) hx hb hts hi_X6 hown hK hP 0 rfl rfl 2 (by decide) (hts (.fieldLink RX6 41 "WishWellModel$State" "turn" "I") (List.mem_of_getElem? (i := 4) rfl)) (fun _ h9 => h9) rfl dX6_pass_238 ?_
      refine lv_iconst (v := 1) hx hb dX6_pass_241 (by decide) ?_
      refine lv_iadd hx hb dX6_pass_242 ?_
      refine lv_iconst (v := 4) hx hb dX6_pass_243 (by decide) ?_
      refine lv_irem hx hb dX6_pass_244 (by decide) ?_
      refine va_put (D := D) (ci := 9) (v := .int (((t_45 2) + 1) - ((t_45 2) + 1) / 4 * 4)) (ty := .int) (C := RX6) (T := TX6) (N := 8) hx hb hts hi_X6 tyX6 tyX6_ok nmX6 hown hK hP hD hS 0 rfl rfl 2 (by decide) (hts (.fieldLink RX6 41 "WishWellModel$State" "turn" "I") (List.mem_of_getElem? (i := 4) rfl)) (fun _ h9 => h9) rfl (by decide +kernel) rfl rfl (Nat.le_of_ble_eq_true rfl) dX6_pass_245 (fun H locs hP hD hS => ?_)
      obtain ⟨t_50, et_50, h⟩ := lt_I h
      have hP : va_P D vwCl (ms cI q o T_49 t_50 ++ (mo cI o s0 u0 M k ++ rs)) H := by rw [et_50]; exact hP
      have hD : va_D A (ms cI q o T_49 t_50 ++ (mo cI o s0 u0 M k ++ rs)) := by rw [et_50]; exact hD
      refine lv_aload_n hx hb dX6_pass_248 rfl (lv_at hl 2 rfl) ?_
      refine lv_dup hx hb dX6_pass_249 rfl ?_
      refine va_get (ci := 9) (v := .int (t_50 0)) (C := RX6) (T := TX6) (N := 8) hx hb hts hi_X6 hown hK hP 0 rfl rfl 0 (by decide) (hts (.fieldLink RX6 38 "WishWellModel$State" "today" "I") (List.mem_of_getElem? (i := 2) rfl)) (fun _ h9 => h9) rfl dX6_pass_250 ?_
      refine lv_iconst (v := 1) hx hb dX6_pass_253 (by decide) ?_
      refine lv_iadd hx hb dX6_pass_254 ?_
      refine va_put (D := D) (ci := 9) (v := .int ((t_50 0) + 1)) (ty := .int) (C := RX6) (T := TX6) (N := 8) hx hb hts hi_X6 tyX6 tyX6_ok nmX6 hown hK hP hD hS 0 rfl rfl 0 (by decide) (hts (.fieldLink RX6 38 "WishWellModel$State" "today" "I") (List.mem_of_getElem? (i := 2) rfl)) (fun _ h9 => h9) rfl (by decide +kernel) rfl rfl (Nat.le_of_ble_eq_true rfl) dX6_pass_255 (fun H locs hP hD hS => ?_)
      obtain ⟨t_51, et_51, h⟩ := lt_I h
      have hP : va_P D vwCl (ms cI q o T_49 t_51 ++ (mo cI o s0 u0 M k ++ rs)) H := by rw [et_51]; exact hP
      have hD : va_D A (ms cI q o T_49 t_51 ++ (mo cI o s0 u0 M k ++ rs)) := by rw [et_51]; exact hD
      refine lv_iload_n hx hb dX6_pass_258 rfl (lv_at hl 0 rfl) ?_
      obtain ⟨h0, h1, h2⟩ := o3 h
      exact eZ hx hb hr nar1 hlk hP hS dX6_pass_259 (Nat.le_of_ble_eq_true rfl) (Nat.le_of_ble_eq_true rfl) h0 (by rw [h1, h2])
noncomputable def fX6_coins_B7 (T : Nat → Nat → Int32) (p0 : Int32) (x2_2 : Int32) (x3_2 : Int32)  : Option ((Int32 × Int32) ⊕ (Int32 × Int32)) := if ((6 * p0) + 6) ≤ x3_2 then (some (.inr (x2_2, x3_2))) else (gd (vp_in x3_2 30) (lt_ (x2_2 + (T 0 (Int32.toNatClampNeg x3_2))) (fun y2_5 => some (.inl (y2_5, x3_2 + 1)))))
noncomputable def fX6_coins (T : Nat → Nat → Int32) (p0 : Int32) : Option (Int32) := lt_ (6 * p0) (fun y3_1 => b2 (lp (fun s => fX6_coins_B7 T p0 s.1 s.2) 7 (0, y3_1)) (fun z2_2 z3_2 => some z2_2))
set_option maxHeartbeats 4000000 in
set_option maxRecDepth 100000 in
theorem c_X6_coins (l : Launch) (D : va_G) (cI cJ : ClassId) (q o : Nat → Nat) (s0 u0 : Nat) (T : Nat → Nat → Int32) (t : Nat → Int32) (M : Nat → Nat → Int32) (k : Nat → Int32) (p0 : Int32) (r' : Int32) (rs : va_W) (h : fX6_coins T p0 = some r') : Ci l yX6_coins wsX6_coins ({ frames := 0, cells := 0, slots := 0, locals := 0 } : Room) D cI cJ ([.ref (q 0), .int p0] : List Value) (ms cI q o T t ++ (mo cI o s0 u0 M k ++ rs)) r' (ms cI q o T t ++ (mo cI o s0 u0 M k ++ rs)) := by
  refine Ci.mk (cc := cX6_coins) (maxL := 4) (ret := (some .int)) (by decide) rfl (Nat.le_of_ble_eq_true rfl) ?_
  intro p e s m below meth c A ls B hr hlk hK hN hA hP hD hl
  obtain ⟨hx, hb, hml, hown, hts⟩ := id B
  have hi_X6 : ∀ w ∈ wsX60, w ∈ wsX6_coins := fun _ h => List.mem_cons_of_mem _ (List.mem_append_left _ (List.mem_append_right _ (h)))
  have hS : va_S A s.heap s.heap [] := va_S.rf
  have hl : lv_has ls 4 [(0, .ref (q 0)), (1, .int p0)] := hl
  unfold fX6_coins at h
  refine lv_iconst (v := 0) hx hb dX6_coins_0 (by decide) ?_
  refine lv_istore_n (lv' := [(2, .int 0), (0, .ref (q 0)), (1, .int p0)]) hx hb dX6_coins_1 rfl hl (by decide) rfl (fun ls hl => ?_)
  refine lv_bipush (v := 6) hx hb dX6_coins_2 (by decide) ?_
  refine lv_iload_n hx hb dX6_coins_4 rfl (lv_at hl 2 rfl) ?_
  refine lv_imul hx hb dX6_coins_5 ?_
  obtain ⟨y3_1, ey3_1, h⟩ := lt_I h
  rw [← ey3_1]
  refine lv_istore_n (lv' := [(3, .int y3_1), (2, .int 0), (0, .ref (q 0)), (1, .int p0)]) hx hb dX6_coins_6 rfl hl (by decide) rfl (fun ls hl => ?_)
  have L7_2 : ∀ (n : Nat) (x2_2 : Int32) (x3_2 : Int32)  (z2_2 : Int32) (z3_2 : Int32)  (_ : lp (fun s => fX6_coins_B7 T p0 s.1 s.2) n (x2_2, x3_2) = some (z2_2, z3_2)) (_ : ∀ (H : Heap) (locs : List Loc) (ls : Array Slot), va_P D vwCl (ms cI q o T t ++ (mo cI o s0 u0 M k ++ rs)) H → va_D A (ms cI q o T t ++ (mo cI o s0 u0 M k ++ rs)) → va_S A s.heap H locs → lv_has ls 4 [(0, .ref (q 0)), (1, .int p0), (2, .int z2_2), (3, .int z3_2)] → W p l e (headSpec wsX6_coins ({ frames := 0, cells := 0, slots := 0, locals := 0 } : Room)).room s m ([.ref (q 0), .int p0] : List Value).toArray below meth c H locs (0) (0) (QI below D (ms cI q o T t ++ (mo cI o s0 u0 M k ++ rs)) r' ([.ref (q 0), .int p0] : List Value).toArray s 0 0 A) (F0 m 33 ls [])) (H : Heap) (locs : List Loc) (ls : Array Slot), va_P D vwCl (ms cI q o T t ++ (mo cI o s0 u0 M k ++ rs)) H → va_D A (ms cI q o T t ++ (mo cI o s0 u0 M k ++ rs)) → va_S A s.heap H locs → lv_has ls 4 [(0, .ref (q 0)), (1, .int p0), (2, .int x2_2), (3, .int x3_2)] → W p l e (headSpec wsX6_coins ({ frames := 0, cells := 0, slots := 0, locals := 0 } : Room)).room s m ([.ref (q 0), .int p0] : List Value).toArray below meth c H locs (0) (0) (QI below D (ms cI q o T t ++ (mo cI o s0 u0 M k ++ rs)) r' ([.ref (q 0), .int p0] : List Value).toArray s 0 0 A) (F0 m 7 ls []) := by
    intro n
    induction n with
    | zero => intro x2_2 x3_2 z2_2 z3_2 h; exact (lp_0 h).elim
    | succ n ih =>
      intro x2_2 x3_2 z2_2 z3_2 h kk H locs ls hP hD hS hl
      obtain ⟨z, h, hz⟩ := lp_walk h
      have h : fX6_coins_B7 T p0 x2_2 x3_2 = some z := h
      unfold fX6_coins_B7 at h
      refine lv_iload_n hx hb dX6_coins_7 rfl (lv_at hl 3 rfl) ?_
      refine lv_bipush (v := 6) hx hb dX6_coins_8 (by decide) ?_
      refine lv_iload_n hx hb dX6_coins_10 rfl (lv_at hl 1 rfl) ?_
      refine lv_imul hx hb dX6_coins_11 ?_
      refine lv_bipush (v := 6) hx hb dX6_coins_12 (by decide) ?_
      refine lv_iadd hx hb dX6_coins_14 ?_
      refine lv_icmp_ge (tgt := 33) hx hb dX6_coins_15 (by decide) (fun c_3 => ?_) (fun c_3 => ?_)
      · have h := ip_ h c_3
        cases lz_e h hz
        exact kk _ _ _ hP hD hS (lv_sub hl [0, 1, 2, 3] rfl)
      · have h := in_ h c_3
        refine lv_iload_n hx hb dX6_coins_18 rfl (lv_at hl 2 rfl) ?_
        refine lv_aload_n hx hb dX6_coins_19 rfl (lv_at hl 0 rfl) ?_
        refine va_get (ci := 9) (v := .ref (q 1)) (C := RX6) (T := TX6) (N := 8) hx hb hts hi_X6 hown hK hP 0 rfl rfl 3 (by decide) (hts (.fieldLink RX6 19 "WishWellModel$State" "pile" "[I") (List.mem_of_getElem? (i := 1) rfl)) (fun _ h9 => h9) rfl dX6_coins_20 ?_
        refine lv_iload_n hx hb dX6_coins_23 rfl (lv_at hl 3 rfl) ?_
        obtain ⟨c_4, h⟩ := gd_I h
        refine va_iald hx hb hK hP 1 0 rfl rfl c_4 dX6_coins_24 ?_
        refine lv_iadd hx hb dX6_coins_25 ?_
        obtain ⟨y2_5, ey2_5, h⟩ := lt_I h
        rw [← ey2_5]
        refine lv_istore_n (lv' := [(2, .int y2_5), (0, .ref (q 0)), (1, .int p0), (3, .int x3_2)]) hx hb dX6_coins_26 rfl hl (by decide) rfl (fun ls hl => ?_)
        refine lv_iinc (v := x3_2 + 1) (lv' := [(3, .int (x3_2 + 1)), (2, .int y2_5), (0, .ref (q 0)), (1, .int p0)]) hx hb dX6_coins_27 hl (k := 3) rfl rfl (by decide) rfl (fun ls hl => ?_)
        refine lv_goto (tgt := 7) hx hb dX6_coins_30 (by decide) ?_
        exact ih y2_5 (x3_2 + 1) _ _ (lz_c h hz) kk _ _ _ hP hD hS (lv_sub hl [2, 3, 1, 0] rfl)
  obtain ⟨z2_2, z3_2, hl_2, h⟩ := b2_I h
  refine L7_2 7 0 y3_1  z2_2 z3_2 hl_2 (fun H locs ls hP hD hS hl => ?_) _ _ _ hP hD hS (lv_sub hl [2, 3, 1, 0] rfl)
  refine lv_iload_n hx hb dX6_coins_33 rfl (lv_at hl 2 rfl) ?_
  have h0 := o1 h
  exact eI hx hb hr hlk hP hS dX6_coins_34 (Nat.le_of_ble_eq_true rfl) (Nat.le_of_ble_eq_true rfl) h0 rfl
noncomputable def fX6_worth_B4 (T : Nat → Nat → Int32) (M : Nat → Nat → Int32) (p0 : Int32) (x2_1 : Int32) (x3_1 : Int32)  : Option ((Int32 × Int32) ⊕ (Int32 × Int32)) := if 6 ≤ x3_1 then (some (.inr (x2_1, x3_1))) else (gd (vp_in x3_1 6) (gd (vp_in ((6 * p0) + x3_1) 30) (lt_ (x2_1 + ((M 0 (Int32.toNatClampNeg x3_1)) * (T 0 (Int32.toNatClampNeg ((6 * p0) + x3_1))))) (fun y2_5 => some (.inl (y2_5, x3_1 + 1))))))
noncomputable def fX6_worth (T : Nat → Nat → Int32) (M : Nat → Nat → Int32) (p0 : Int32) : Option (Int32) := b2 (lp (fun s => fX6_worth_B4 T M p0 s.1 s.2) 7 (0, 0)) (fun z2_1 z3_1 => some z2_1)
set_option maxHeartbeats 4000000 in
set_option maxRecDepth 100000 in
theorem c_X6_worth (l : Launch) (D : va_G) (cI cJ : ClassId) (q o : Nat → Nat) (s0 u0 : Nat) (T : Nat → Nat → Int32) (t : Nat → Int32) (M : Nat → Nat → Int32) (k : Nat → Int32) (p0 : Int32) (r' : Int32) (rs : va_W) (h : fX6_worth T M p0 = some r') : Ci l yX6_worth wsX6_worth ({ frames := 0, cells := 0, slots := 0, locals := 0 } : Room) D cI cJ ([.ref (q 0), .int p0] : List Value) (ms cI q o T t ++ (mo cI o s0 u0 M k ++ rs)) r' (ms cI q o T t ++ (mo cI o s0 u0 M k ++ rs)) := by
  refine Ci.mk (cc := cX6_worth) (maxL := 4) (ret := (some .int)) (by decide) rfl (Nat.le_of_ble_eq_true rfl) ?_
  intro p e s m below meth c A ls B hr hlk hK hN hA hP hD hl
  obtain ⟨hx, hb, hml, hown, hts⟩ := id B
  have hi_X6 : ∀ w ∈ wsX60, w ∈ wsX6_worth := fun _ h => List.mem_cons_of_mem _ (List.mem_append_left _ (List.mem_append_left _ (List.mem_append_right _ (h))))
  have hi_X7 : ∀ w ∈ wsX70, w ∈ wsX6_worth := fun _ h => List.mem_cons_of_mem _ (List.mem_append_left _ (List.mem_append_right _ (h)))
  have hS : va_S A s.heap s.heap [] := va_S.rf
  have hl : lv_has ls 4 [(0, .ref (q 0)), (1, .int p0)] := hl
  unfold fX6_worth at h
  refine lv_iconst (v := 0) hx hb dX6_worth_0 (by decide) ?_
  refine lv_istore_n (lv' := [(2, .int 0), (0, .ref (q 0)), (1, .int p0)]) hx hb dX6_worth_1 rfl hl (by decide) rfl (fun ls hl => ?_)
  refine lv_iconst (v := 0) hx hb dX6_worth_2 (by decide) ?_
  refine lv_istore_n (lv' := [(3, .int 0), (2, .int 0), (0, .ref (q 0)), (1, .int p0)]) hx hb dX6_worth_3 rfl hl (by decide) rfl (fun ls hl => ?_)
  have L4_1 : ∀ (n : Nat) (x2_1 : Int32) (x3_1 : Int32)  (z2_1 : Int32) (z3_1 : Int32)  (_ : lp (fun s => fX6_worth_B4 T M p0 s.1 s.2) n (x2_1, x3_1) = some (z2_1, z3_1)) (_ : ∀ (H : Heap) (locs : List Loc) (ls : Array Slot), va_P D vwCl (ms cI q o T t ++ (mo cI o s0 u0 M k ++ rs)) H → va_D A (ms cI q o T t ++ (mo cI o s0 u0 M k ++ rs)) → va_S A s.heap H locs → lv_has ls 4 [(0, .ref (q 0)), (1, .int p0), (2, .int z2_1), (3, .int z3_1)] → W p l e (headSpec wsX6_worth ({ frames := 0, cells := 0, slots := 0, locals := 0 } : Room)).room s m ([.ref (q 0), .int p0] : List Value).toArray below meth c H locs (0) (0) (QI below D (ms cI q o T t ++ (mo cI o s0 u0 M k ++ rs)) r' ([.ref (q 0), .int p0] : List Value).toArray s 0 0 A) (F0 m 40 ls [])) (H : Heap) (locs : List Loc) (ls : Array Slot), va_P D vwCl (ms cI q o T t ++ (mo cI o s0 u0 M k ++ rs)) H → va_D A (ms cI q o T t ++ (mo cI o s0 u0 M k ++ rs)) → va_S A s.heap H locs → lv_has ls 4 [(0, .ref (q 0)), (1, .int p0), (2, .int x2_1), (3, .int x3_1)] → W p l e (headSpec wsX6_worth ({ frames := 0, cells := 0, slots := 0, locals := 0 } : Room)).room s m ([.ref (q 0), .int p0] : List Value).toArray below meth c H locs (0) (0) (QI below D (ms cI q o T t ++ (mo cI o s0 u0 M k ++ rs)) r' ([.ref (q 0), .int p0] : List Value).toArray s 0 0 A) (F0 m 4 ls []) := by
    intro n
    induction n with
    | zero => intro x2_1 x3_1 z2_1 z3_1 h; exact (lp_0 h).elim
    | succ n ih =>
      intro x2_1 x3_1 z2_1 z3_1 h kk H locs ls hP hD hS hl
      obtain ⟨z, h, hz⟩ := lp_walk h
      have h : fX6_worth_B4 T M p0 x2_1 x3_1 = some z := h
      unfold fX6_worth_B4 at h
      refine lv_iload_n hx hb dX6_worth_4 rfl (lv_at hl 3 rfl) ?_
      refine lv_bipush (v := 6) hx hb dX6_worth_5 (by decide) ?_
      refine lv_icmp_ge (tgt := 40) hx hb dX6_worth_7 (by decide) (fun c_2 => ?_) (fun c_2 => ?_)
      · have h := ip_ h c_2
        cases lz_e h hz
        exact kk _ _ _ hP hD hS (lv_sub hl [0, 1, 2, 3] rfl)
      · have h := in_ h c_2
        refine lv_iload_n hx hb dX6_worth_10 rfl (lv_at hl 2 rfl) ?_
        refine lv_aload_n hx hb dX6_worth_11 rfl (lv_at hl 0 rfl) ?_
        refine va_get (ci := 9) (v := .ref (o 0)) (C := RX6) (T := TX6) (N := 8) hx hb hts hi_X6 hown hK hP 0 rfl rfl 7 (by decide) (hts (.fieldLink RX6 3 "WishWellModel$State" "this$0" "LWishWellModel;") (List.mem_of_getElem? (i := 1) rfl)) (fun _ h9 => h9) rfl dX6_worth_12 ?_
        refine va_getN (own := RX6) (ref := "WishWellModel") (host := "WishWellModel") (index := 48) (ci := 10) (v := .ref (o 1)) (C := RX7) (T := TX7) (N := 15) hx hb hts hi_X7 hown hK hP 5 rfl rfl 2 (by decide) (nF_8 hN) (fun _ h9 => h9) rfl dX6_worth_15 ?_
        refine lv_iload_n hx hb dX6_worth_18 rfl (lv_at hl 3 rfl) ?_
        obtain ⟨c_3, h⟩ := gd_I h
        refine va_iald hx hb hK hP 6 0 rfl rfl c_3 dX6_worth_19 ?_
        refine lv_aload_n hx hb dX6_worth_20 rfl (lv_at hl 0 rfl) ?_
        refine va_get (ci := 9) (v := .ref (q 1)) (C := RX6) (T := TX6) (N := 8) hx hb hts hi_X6 hown hK hP 0 rfl rfl 3 (by decide) (hts (.fieldLink RX6 19 "WishWellModel$State" "pile" "[I") (List.mem_of_getElem? (i := 2) rfl)) (fun _ h9 => h9) rfl dX6_worth_21 ?_
        refine lv_bipush (v := 6) hx hb dX6_worth_24 (by decide) ?_
        refine lv_iload_n hx hb dX6_worth_26 rfl (lv_at hl 1 rfl) ?_
        refine lv_imul hx hb dX6_worth_27 ?_
        refine lv_iload_n hx hb dX6_worth_28 rfl (lv_at hl 3 rfl) ?_
        refine lv_iadd hx hb dX6_worth_29 ?_
        obtain ⟨c_4, h⟩ := gd_I h
        refine va_iald hx hb hK hP 1 0 rfl rfl c_4 dX6_worth_30 ?_
        refine lv_imul hx hb dX6_worth_31 ?_
        refine lv_iadd hx hb dX6_worth_32 ?_
        obtain ⟨y2_5, ey2_5, h⟩ := lt_I h
        rw [← ey2_5]
        refine lv_istore_n (lv' := [(2, .int y2_5), (0, .ref (q 0)), (1, .int p0), (3, .int x3_1)]) hx hb dX6_worth_33 rfl hl (by decide) rfl (fun ls hl => ?_)
        refine lv_iinc (v := x3_1 + 1) (lv' := [(3, .int (x3_1 + 1)), (2, .int y2_5), (0, .ref (q 0)), (1, .int p0)]) hx hb dX6_worth_34 hl (k := 3) rfl rfl (by decide) rfl (fun ls hl => ?_)
        refine lv_goto (tgt := 4) hx hb dX6_worth_37 (by decide) ?_
        exact ih y2_5 (x3_1 + 1) _ _ (lz_c h hz) kk _ _ _ hP hD hS (lv_sub hl [2, 3, 1, 0] rfl)
  obtain ⟨z2_1, z3_1, hl_1, h⟩ := b2_I h
  refine L4_1 7 0 0  z2_1 z3_1 hl_1 (fun H locs ls hP hD hS hl => ?_) _ _ _ hP hD hS (lv_sub hl [2, 3, 1, 0] rfl)
  refine lv_iload_n hx hb dX6_worth_40 rfl (lv_at hl 2 rfl) ?_
  have h0 := o1 h
  exact eI hx hb hr hlk hP hS dX6_worth_41 (Nat.le_of_ble_eq_true rfl) (Nat.le_of_ble_eq_true rfl) h0 rfl
noncomputable def fX6_allWorth_B4 (T : Nat → Nat → Int32) (M : Nat → Nat → Int32) (x1_1 : Int32) (x2_1 : Int32)  : Option ((Int32 × Int32) ⊕ (Int32 × Int32)) := if 5 ≤ x2_1 then (some (.inr (x1_1, x2_1))) else (Option.bind (fX6_worth T M x2_1) (fun r_3 => lt_ (x1_1 + r_3) (fun y1_5 => some (.inl (y1_5, x2_1 + 1)))))
noncomputable def fX6_allWorth (T : Nat → Nat → Int32) (M : Nat → Nat → Int32) : Option (Int32) := b2 (lp (fun s => fX6_allWorth_B4 T M s.1 s.2) 6 (0, 0)) (fun z1_1 z2_1 => some z1_1)
set_option maxHeartbeats 4000000 in
set_option maxRecDepth 100000 in
theorem c_X6_allWorth (l : Launch) (D : va_G) (cI cJ : ClassId) (q o : Nat → Nat) (s0 u0 : Nat) (T : Nat → Nat → Int32) (t : Nat → Int32) (M : Nat → Nat → Int32) (k : Nat → Int32) (r' : Int32) (rs : va_W) (h : fX6_allWorth T M = some r') : Ci l yX6_allWorth wsX6_allWorth ({ frames := 1, cells := 0, slots := 0, locals := 23 } : Room) D cI cJ ([.ref (q 0)] : List Value) (ms cI q o T t ++ (mo cI o s0 u0 M k ++ rs)) r' (ms cI q o T t ++ (mo cI o s0 u0 M k ++ rs)) := by
  refine Ci.mk (cc := cX6_allWorth) (maxL := 3) (ret := (some .int)) (by decide) rfl (Nat.le_of_ble_eq_true rfl) ?_
  intro p e s m below meth c A ls B hr hlk hK hN hA hP hD hl
  obtain ⟨hx, hb, hml, hown, hts⟩ := id B
  have hS : va_S A s.heap s.heap [] := va_S.rf
  have hl : lv_has ls 3 [(0, .ref (q 0))] := hl
  unfold fX6_allWorth at h
  refine lv_iconst (v := 0) hx hb dX6_allWorth_0 (by decide) ?_
  refine lv_istore_n (lv' := [(1, .int 0), (0, .ref (q 0))]) hx hb dX6_allWorth_1 rfl hl (by decide) rfl (fun ls hl => ?_)
  refine lv_iconst (v := 0) hx hb dX6_allWorth_2 (by decide) ?_
  refine lv_istore_n (lv' := [(2, .int 0), (1, .int 0), (0, .ref (q 0))]) hx hb dX6_allWorth_3 rfl hl (by decide) rfl (fun ls hl => ?_)
  have L4_1 : ∀ (n : Nat) (x1_1 : Int32) (x2_1 : Int32)  (z1_1 : Int32) (z2_1 : Int32)  (_ : lp (fun s => fX6_allWorth_B4 T M s.1 s.2) n (x1_1, x2_1) = some (z1_1, z2_1)) (_ : ∀ (H : Heap) (locs : List Loc) (ls : Array Slot), va_P D vwCl (ms cI q o T t ++ (mo cI o s0 u0 M k ++ rs)) H → va_D A (ms cI q o T t ++ (mo cI o s0 u0 M k ++ rs)) → va_S A s.heap H locs → lv_has ls 3 [(0, .ref (q 0)), (1, .int z1_1), (2, .int z2_1)] → W p l e (headSpec wsX6_allWorth ({ frames := 1, cells := 0, slots := 0, locals := 23 } : Room)).room s m ([.ref (q 0)] : List Value).toArray below meth c H locs (0) (0) (QI below D (ms cI q o T t ++ (mo cI o s0 u0 M k ++ rs)) r' ([.ref (q 0)] : List Value).toArray s 0 0 A) (F0 m 23 ls [])) (H : Heap) (locs : List Loc) (ls : Array Slot), va_P D vwCl (ms cI q o T t ++ (mo cI o s0 u0 M k ++ rs)) H → va_D A (ms cI q o T t ++ (mo cI o s0 u0 M k ++ rs)) → va_S A s.heap H locs → lv_has ls 3 [(0, .ref (q 0)), (1, .int x1_1), (2, .int x2_1)] → W p l e (headSpec wsX6_allWorth ({ frames := 1, cells := 0, slots := 0, locals := 23 } : Room)).room s m ([.ref (q 0)] : List Value).toArray below meth c H locs (0) (0) (QI below D (ms cI q o T t ++ (mo cI o s0 u0 M k ++ rs)) r' ([.ref (q 0)] : List Value).toArray s 0 0 A) (F0 m 4 ls []) := by
    intro n
    induction n with
    | zero => intro x1_1 x2_1 z1_1 z2_1 h; exact (lp_0 h).elim
    | succ n ih =>
      intro x1_1 x2_1 z1_1 z2_1 h kk H locs ls hP hD hS hl
      obtain ⟨z, h, hz⟩ := lp_walk h
      have h : fX6_allWorth_B4 T M x1_1 x2_1 = some z := h
      unfold fX6_allWorth_B4 at h
      refine lv_iload_n hx hb dX6_allWorth_4 rfl (lv_at hl 2 rfl) ?_
      refine lv_iconst (v := 5) hx hb dX6_allWorth_5 (by decide) ?_
      refine lv_icmp_ge (tgt := 23) hx hb dX6_allWorth_6 (by decide) (fun c_2 => ?_) (fun c_2 => ?_)
      · have h := ip_ h c_2
        cases lz_e h hz
        exact kk _ _ _ hP hD hS (lv_sub hl [0, 1, 2] rfl)
      · have h := in_ h c_2
        refine lv_iload_n hx hb dX6_allWorth_9 rfl (lv_at hl 1 rfl) ?_
        refine lv_aload_n hx hb dX6_allWorth_10 rfl (lv_at hl 0 rfl) ?_
        refine lv_iload_n hx hb dX6_allWorth_11 rfl (lv_at hl 2 rfl) ?_
        obtain ⟨r_3, hx_4, h⟩ := bd_I h
        refine kVi (As := [.int x2_1]) (rest := [.int x1_1]) B hK hN hP hD hS hA (c_X6_worth l D cI cJ q o s0 u0 T t M k x2_1 r_3 rs hx_4) (cwV 1 hts gX6_allWorth_X6_worth rfl rfl rfl (by decide +kernel) ⟨(Nat.le_of_ble_eq_true rfl), (Nat.le_of_ble_eq_true rfl)⟩) 9 0 rfl rfl rfl hl.1 rfl (Nat.le_of_ble_eq_true rfl) dX6_allWorth_12 ⟨(Nat.le_of_ble_eq_true rfl), (Nat.le_of_ble_eq_true rfl)⟩ rfl (fun H locs hP hD hS => ?_)
        refine lv_iadd hx hb dX6_allWorth_15 ?_
        obtain ⟨y1_5, ey1_5, h⟩ := lt_I h
        rw [← ey1_5]
        refine lv_istore_n (lv' := [(1, .int y1_5), (0, .ref (q 0)), (2, .int x2_1)]) hx hb dX6_allWorth_16 rfl hl (by decide) rfl (fun ls hl => ?_)
        refine lv_iinc (v := x2_1 + 1) (lv' := [(2, .int (x2_1 + 1)), (1, .int y1_5), (0, .ref (q 0))]) hx hb dX6_allWorth_17 hl (k := 2) rfl rfl (by decide) rfl (fun ls hl => ?_)
        refine lv_goto (tgt := 4) hx hb dX6_allWorth_20 (by decide) ?_
        exact ih y1_5 (x2_1 + 1) _ _ (lz_c h hz) kk _ _ _ hP hD hS (lv_sub hl [2, 1, 0] rfl)
  obtain ⟨z1_1, z2_1, hl_1, h⟩ := b2_I h
  refine L4_1 6 0 0  z1_1 z2_1 hl_1 (fun H locs ls hP hD hS hl => ?_) _ _ _ hP hD hS (lv_sub hl [2, 1, 0] rfl)
  refine lv_iload_n hx hb dX6_allWorth_23 rfl (lv_at hl 1 rfl) ?_
  have h0 := o1 h
  exact eI hx hb hr hlk hP hS dX6_allWorth_24 (Nat.le_of_ble_eq_true rfl) (Nat.le_of_ble_eq_true rfl) h0 rfl
noncomputable def fX6_all_B4 (T : Nat → Nat → Int32) (x2_1 : Int32) (x3_1 : Int32)  : Option ((Int32 × Int32) ⊕ (Int32 × Int32)) := if 30 ≤ x3_1 then (some (.inr (x2_1, x3_1))) else (gd (vp_in x3_1 30) (lt_ (x2_1 + (T 0 (Int32.toNatClampNeg x3_1))) (fun y2_4 => some (.inl (y2_4, x3_1 + 6)))))
noncomputable def fX6_all (T : Nat → Nat → Int32) (p0 : Int32) : Option (Int32) := b2 (lp (fun s => fX6_all_B4 T s.1 s.2) 6 (0, p0)) (fun z2_1 z3_1 => some z2_1)
set_option maxHeartbeats 4000000 in
set_option maxRecDepth 100000 in
theorem c_X6_all (l : Launch) (D : va_G) (cI cJ : ClassId) (q o : Nat → Nat) (s0 u0 : Nat) (T : Nat → Nat → Int32) (t : Nat → Int32) (M : Nat → Nat → Int32) (k : Nat → Int32) (p0 : Int32) (r' : Int32) (rs : va_W) (h : fX6_all T p0 = some r') : Ci l yX6_all wsX6_all ({ frames := 0, cells := 0, slots := 0, locals := 0 } : Room) D cI cJ ([.ref (q 0), .int p0] : List Value) (ms cI q o T t ++ (mo cI o s0 u0 M k ++ rs)) r' (ms cI q o T t ++ (mo cI o s0 u0 M k ++ rs)) := by
  refine Ci.mk (cc := cX6_all) (maxL := 4) (ret := (some .int)) (by decide) rfl (Nat.le_of_ble_eq_true rfl) ?_
  intro p e s m below meth c A ls B hr hlk hK hN hA hP hD hl
  obtain ⟨hx, hb, hml, hown, hts⟩ := id B
  have hi_X6 : ∀ w ∈ wsX60, w ∈ wsX6_all := fun _ h => List.mem_cons_of_mem _ (List.mem_append_left _ (List.mem_append_right _ (h)))
  have hS : va_S A s.heap s.heap [] := va_S.rf
  have hl : lv_has ls 4 [(0, .ref (q 0)), (1, .int p0)] := hl
  unfold fX6_all at h
  refine lv_iconst (v := 0) hx hb dX6_all_0 (by decide) ?_
  refine lv_istore_n (lv' := [(2, .int 0), (0, .ref (q 0)), (1, .int p0)]) hx hb dX6_all_1 rfl hl (by decide) rfl (fun ls hl => ?_)
  refine lv_iload_n hx hb dX6_all_2 rfl (lv_at hl 2 rfl) ?_
  refine lv_istore_n (lv' := [(3, .int p0), (2, .int 0), (0, .ref (q 0)), (1, .int p0)]) hx hb dX6_all_3 rfl hl (by decide) rfl (fun ls hl => ?_)
  have L4_1 : ∀ (n : Nat) (x2_1 : Int32) (x3_1 : Int32)  (z2_1 : Int32) (z3_1 : Int32)  (_ : lp (fun s => fX6_all_B4 T s.1 s.2) n (x2_1, x3_1) = some (z2_1, z3_1)) (_ : ∀ (H : Heap) (locs : List Loc) (ls : Array Slot), va_P D vwCl (ms cI q o T t ++ (mo cI o s0 u0 M k ++ rs)) H → va_D A (ms cI q o T t ++ (mo cI o s0 u0 M k ++ rs)) → va_S A s.heap H locs → lv_has ls 4 [(0, .ref (q 0)), (1, .int p0), (2, .int z2_1), (3, .int z3_1)] → W p l e (headSpec wsX6_all ({ frames := 0, cells := 0, slots := 0, locals := 0 } : Room)).room s m ([.ref (q 0), .int p0] : List Value).toArray below meth c H locs (0) (0) (QI below D (ms cI q o T t ++ (mo cI o s0 u0 M k ++ rs)) r' ([.ref (q 0), .int p0] : List Value).toArray s 0 0 A) (F0 m 25 ls [])) (H : Heap) (locs : List Loc) (ls : Array Slot), va_P D vwCl (ms cI q o T t ++ (mo cI o s0 u0 M k ++ rs)) H → va_D A (ms cI q o T t ++ (mo cI o s0 u0 M k ++ rs)) → va_S A s.heap H locs → lv_has ls 4 [(0, .ref (q 0)), (1, .int p0), (2, .int x2_1), (3, .int x3_1)] → W p l e (headSpec wsX6_all ({ frames := 0, cells := 0, slots := 0, locals := 0 } : Room)).room s m ([.ref (q 0), .int p0] : List Value).toArray below meth c H locs (0) (0) (QI below D (ms cI q o T t ++ (mo cI o s0 u0 M k ++ rs)) r' ([.ref (q 0), .int p0] : List Value).toArray s 0 0 A) (F0 m 4 ls []) := by
    intro n
    induction n with
    | zero => intro x2_1 x3_1 z2_1 z3_1 h; exact (lp_0 h).elim
    | succ n ih =>
      intro x2_1 x3_1 z2_1 z3_1 h kk H locs ls hP hD hS hl
      obtain ⟨z, h, hz⟩ := lp_walk h
      have h : fX6_all_B4 T x2_1 x3_1 = some z := h
      unfold fX6_all_B4 at h
      refine lv_iload_n hx hb dX6_all_4 rfl (lv_at hl 3 rfl) ?_
      refine lv_bipush (v := 30) hx hb dX6_all_5 (by decide) ?_
      refine lv_icmp_ge (tgt := 25) hx hb dX6_all_7 (by decide) (fun c_2 => ?_) (fun c_2 => ?_)
      · have h := ip_ h c_2
        cases lz_e h hz
        exact kk _ _ _ hP hD hS (lv_sub hl [0, 1, 2, 3] rfl)
      · have h := in_ h c_2
        refine lv_iload_n hx hb dX6_all_10 rfl (lv_at hl 2 rfl) ?_
        refine lv_aload_n hx hb dX6_all_11 rfl (lv_at hl 0 rfl) ?_
        refine va_get (ci := 9) (v := .ref (q 1)) (C := RX6) (T := TX6) (N := 8) hx hb hts hi_X6 hown hK hP 0 rfl rfl 3 (by decide) (hts (.fieldLink RX6 19 "WishWellModel$State" "pile" "[I") (List.mem_of_getElem? (i := 1) rfl)) (fun _ h9 => h9) rfl dX6_all_12 ?_
        refine lv_iload_n hx hb dX6_all_15 rfl (lv_at hl 3 rfl) ?_
        obtain ⟨c_3, h⟩ := gd_I h
        refine va_iald hx hb hK hP 1 0 rfl rfl c_3 dX6_all_16 ?_
        refine lv_iadd hx hb dX6_all_17 ?_
        obtain ⟨y2_4, ey2_4, h⟩ := lt_I h
        rw [← ey2_4]
        refine lv_istore_n (lv' := [(2, .int y2_4), (0, .ref (q 0)), (1, .int p0), (3, .int x3_1)]) hx hb dX6_all_18 rfl hl (by decide) rfl (fun ls hl => ?_)
        refine lv_iinc (v := x3_1 + 6) (lv' := [(3, .int (x3_1 + 6)), (2, .int y2_4), (0, .ref (q 0)), (1, .int p0)]) hx hb dX6_all_19 hl (k := 3) rfl rfl (by decide) rfl (fun ls hl => ?_)
        refine lv_goto (tgt := 4) hx hb dX6_all_22 (by decide) ?_
        exact ih y2_4 (x3_1 + 6) _ _ (lz_c h hz) kk _ _ _ hP hD hS (lv_sub hl [2, 3, 1, 0] rfl)
  obtain ⟨z2_1, z3_1, hl_1, h⟩ := b2_I h
  refine L4_1 6 0 p0  z2_1 z3_1 hl_1 (fun H locs ls hP hD hS hl => ?_) _ _ _ hP hD hS (lv_sub hl [2, 3, 1, 0] rfl)
  refine lv_iload_n hx hb dX6_all_25 rfl (lv_at hl 2 rfl) ?_
  have h0 := o1 h
  exact eI hx hb hr hlk hP hS dX6_all_26 (Nat.le_of_ble_eq_true rfl) (Nat.le_of_ble_eq_true rfl) h0 rfl
noncomputable def fX6_become (V : Nat → Nat → Int32) (v : Nat → Int32) (T : Nat → Nat → Int32) (t : Nat → Int32) : Option ((Nat → Nat → Int32) × (Nat → Int32)) := lt_ (uS v 0 (t 0)) (fun v_1 => lt_ (uS v_1 1 (t 1)) (fun v_2 => lt_ (uS v_2 2 (t 2)) (fun v_3 => lt_ (uG V 0 (rCp 30 (T 0) (V 0))) (fun V_4 => lt_ (uG V_4 1 (rCp 6 (T 1) (V_4 1))) (fun V_5 => lt_ (uG V_5 2 (rCp 24 (T 2) (V_5 2))) (fun V_6 => lt_ (uG V_6 3 (rCp 24 (T 3) (V_6 3))) (fun V_7 => some (V_7, v_3))))))))
set_option maxHeartbeats 4000000 in
set_option maxRecDepth 100000 in
theorem c_X6_become (l : Launch) (D : va_G) (cI cJ : ClassId) (u q o : Nat → Nat) (s0 u0 : Nat) (V : Nat → Nat → Int32) (v : Nat → Int32) (M : Nat → Nat → Int32) (k : Nat → Int32) (T : Nat → Nat → Int32) (t : Nat → Int32) (V' : Nat → Nat → Int32) (v' : Nat → Int32) (rs : va_W) (h : fX6_become V v T t = some (V', v')) : Cv l yX6_become wsX6_become ({ frames := 2, cells := 0, slots := 0, locals := 82 } : Room) D cI cJ ([.ref (u 0), .ref (q 0)] : List Value) (ms cI u o V v ++ (mo cI o s0 u0 M k ++ (ms cI q o T t ++ rs))) (ms cI u o V' v' ++ (mo cI o s0 u0 M k ++ (ms cI q o T t ++ rs))) := by
  refine Cv.mk (cc := cX6_become) (maxL := 2) (ret := none) (by decide) rfl (Nat.le_of_ble_eq_true rfl) ?_
  intro p e s m below meth c A ls B hr hlk hK hN hA hP hD hl
  obtain ⟨hx, hb, hml, hown, hts⟩ := id B
  have hi_X6 : ∀ w ∈ wsX60, w ∈ wsX6_become := fun _ h => List.mem_cons_of_mem _ (List.mem_append_right _ (h))
  have hS : va_S A s.heap s.heap [] := va_S.rf
  have hl : lv_has ls 2 [(0, .ref (u 0)), (1, .ref (q 0))] := hl
  unfold fX6_become at h
  refine lv_aload_n hx hb dX6_become_0 rfl (lv_at hl 0 rfl) ?_
  refine lv_aload_n hx hb dX6_become_1 rfl (lv_at hl 1 rfl) ?_
  refine va_get (ci := 9) (v := .int (t 0)) (C := RX6) (T := TX6) (N := 8) hx hb hts hi_X6 hown hK hP 14 rfl rfl 0 (by decide) (hts (.fieldLink RX6 38 "WishWellModel$State" "today" "I") (List.mem_of_getElem? (i := 1) rfl)) (fun _ h9 => h9) rfl dX6_become_2 ?_
  refine va_put (D := D) (ci := 9) (v := .int (t 0)) (ty := .int) (C := RX6) (T := TX6) (N := 8) hx hb hts hi_X6 tyX6 tyX6_ok nmX6 hown hK hP hD hS 0 rfl rfl 0 (by decide) (hts (.fieldLink RX6 38 "WishWellModel$State" "today" "I") (List.mem_of_getElem? (i := 1) rfl)) (fun _ h9 => h9) rfl (by decide +kernel) rfl rfl (Nat.le_of_ble_eq_true rfl) dX6_become_5 (fun H locs hP hD hS => ?_)
  obtain ⟨v_1, ev_1, h⟩ := lt_I h
  have hP : va_P D vwCl (ms cI u o V v_1 ++ (mo cI o s0 u0 M k ++ (ms cI q o T t ++ rs))) H := by rw [ev_1]; exact hP
  have hD : va_D A (ms cI u o V v_1 ++ (mo cI o s0 u0 M k ++ (ms cI q o T t ++ rs))) := by rw [ev_1]; exact hD
  refine lv_aload_n hx hb dX6_become_8 rfl (lv_at hl 0 rfl) ?_
  refine lv_aload_n hx hb dX6_become_9 rfl (lv_at hl 1 rfl) ?_
  refine va_get (ci := 9) (v := .int (t 1)) (C := RX6) (T := TX6) (N := 8) hx hb hts hi_X6 hown hK hP 14 rfl rfl 1 (by decide) (hts (.fieldLink RX6 15 "WishWellModel$State" "favour" "I") (List.mem_of_getElem? (i := 2) rfl)) (fun _ h9 => h9) rfl dX6_become_10 ?_
  refine va_put (D := D) (ci := 9) (v := .int (t 1)) (ty := .int) (C := RX6) (T := TX6) (N := 8) hx hb hts hi_X6 tyX6 tyX6_ok nmX6 hown hK hP hD hS 0 rfl rfl 1 (by decide) (hts (.fieldLink RX6 15 "WishWellModel$State" "favour" "I") (List.mem_of_getElem? (i := 2) rfl)) (fun _ h9 => h9) rfl (by decide +kernel) rfl rfl (Nat.le_of_ble_eq_true rfl) dX6_become_13 (fun H locs hP hD hS => ?_)
  obtain ⟨v_2, ev_2, h⟩ := lt_I h
  have hP : va_P D vwCl (ms cI u o V v_2 ++ (mo cI o s0 u0 M k ++ (ms cI q o T t ++ rs))) H := by rw [ev_2]; exact hP
  have hD : va_D A (ms cI u o V v_2 ++ (mo cI o s0 u0 M k ++ (ms cI q o T t ++ rs))) := by rw [ev_2]; exact hD
  refine lv_aload_n hx hb dX6_become_16 rfl (lv_at hl 0 rfl) ?_
  refine lv_aload_n hx hb dX6_become_17 rfl (lv_at hl 1 rfl) ?_
  refine va_get (ci := 9) (v := .int (t 2)) (C := RX6) (T := TX6) (N := 8) hx hb hts hi_X6 hown hK hP 14 rfl rfl 2 (by decide) (hts (.fieldLink RX6 41 "WishWellModel$State" "turn" "I") (List.mem_of_getElem? (i := 3) rfl)) (fun _ h9 => h9) rfl dX6_become_18 ?_
  refine va_put (D := D) (ci := 9) (v := .int (t 2)) (ty := .int) (C := RX6) (T := TX6) (N := 8) hx hb hts hi_X6 tyX6 tyX6_ok nmX6 hown hK hP hD hS 0 rfl rfl 2 (by decide) (hts (.fieldLink RX6 41 "WishWellModel$State" "turn" "I") (List.mem_of_getElem? (i := 3) rfl)) (fun _ h9 => h9) rfl (by decide +kernel) rfl rfl (Nat.le_of_ble_eq_true rfl) dX6_become_21 (fun H locs hP hD hS => ?_)
  obtain ⟨v_3, ev_3, h⟩ := lt_I h
  have hP : va_P D vwCl (ms cI u o V v_3 ++ (mo cI o s0 u0 M k ++ (ms cI q o T t ++ rs))) H := by rw [ev_3]; exact hP
  have hD : va_D A (ms cI u o V v_3 ++ (mo cI o s0 u0 M k ++ (ms cI q o T t ++ rs))) := by rw [ev_3]; exact hD
  refine lv_aload_n hx hb dX6_become_24 rfl (lv_at hl 0 rfl) ?_
  refine lv_aload_n hx hb dX6_become_25 rfl (lv_at hl 1 rfl) ?_
  refine va_get (ci := 9) (v := .ref (q 1)) (C := RX6) (T := TX6) (N := 8) hx hb hts hi_X6 hown hK hP 14 rfl rfl 3 (by decide) (hts (.fieldLink RX6 19 "WishWellModel$State" "pile" "[I") (List.mem_of_getElem? (i := 4) rfl)) (fun _ h9 => h9) rfl dX6_become_26 ?_
  refine lv_aload_n hx hb dX6_become_29 rfl (lv_at hl 0 rfl) ?_
  refine va_get (ci := 9) (v := .ref (u 1)) (C := RX6) (T := TX6) (N := 8) hx hb hts hi_X6 hown hK hP 0 rfl rfl 3 (by decide) (hts (.fieldLink RX6 19 "WishWellModel$State" "pile" "[I") (List.mem_of_getElem? (i := 4) rfl)) (fun _ h9 => h9) rfl dX6_become_30 ?_
  refine kVv (As := [.ref (q 1), .ref (u 1)]) (rest := []) B hK hN hP hD hS hA (c_X6_copy l D cI cJ _ (ms cI u o (uG V 0 (rCp 30 (T 0) (V 0))) v_3 ++ (mo cI o s0 u0 M k ++ (ms cI q o T t ++ rs))) _ _ _ 30 (T 0) (V 0) 15 1 rfl rfl (by decide) rfl) (cwV 2 hts gX6_become_X6_copy rfl rfl rfl (by decide +kernel) ⟨(Nat.le_of_ble_eq_true rfl), (Nat.le_of_ble_eq_true rfl)⟩) 9 0 rfl rfl rfl hl.1 rfl (Nat.le_of_ble_eq_true rfl) dX6_become_33 ⟨(Nat.le_of_ble_eq_true rfl), (Nat.le_of_ble_eq_true rfl)⟩ rfl (fun H locs hP hD hS => ?_)
  obtain ⟨V_4, eV_4, h⟩ := lt_I h
  have hP : va_P D vwCl (ms cI u o V_4 v_3 ++ (mo cI o s0 u0 M k ++ (ms cI q o T t ++ rs))) H := by rw [eV_4]; exact hP
  have hD : va_D A (ms cI u o V_4 v_3 ++ (mo cI o s0 u0 M k ++ (ms cI q o T t ++ rs))) := by rw [eV_4]; exact hD
  refine lv_aload_n hx hb dX6_become_36 rfl (lv_at hl 0 rfl) ?_
  refine lv_aload_n hx hb dX6_become_37 rfl (lv_at hl 1 rfl) ?_
  refine va_get (ci := 9) (v := .ref (q 2)) (C := RX6) (T := TX6) (N := 8) hx hb hts hi_X6 hown hK hP 14 rfl rfl 4 (by decide) (hts (.fieldLink RX6 23 "WishWellModel$State" "came" "[I") (List.mem_of_getElem? (i := 5) rfl)) (fun _ h9 => h9) rfl dX6_become_38 ?_
  refine lv_aload_n hx hb dX6_become_41 rfl (lv_at hl 0 rfl) ?_
  refine va_get (ci := 9) (v := .ref (u 2)) (C := RX6) (T := TX6) (N := 8) hx hb hts hi_X6 hown hK hP 0 rfl rfl 4 (by decide) (hts (.fieldLink RX6 23 "WishWellModel$State" "came" "[I") (List.mem_of_getElem? (i := 5) rfl)) (fun _ h9 => h9) rfl dX6_become_42 ?_
  refine kVv (As := [.ref (q 2), .ref (u 2)]) (rest := []) B hK hN hP hD hS hA (c_X6_copy l D cI cJ _ (ms cI u o (uG V_4 1 (rCp 6 (T 1) (V_4 1))) v_3 ++ (mo cI o s0 u0 M k ++ (ms cI q o T t ++ rs))) _ _ _ 6 (T 1) (V_4 1) 16 2 rfl rfl (by decide) rfl) (cwV 2 hts gX6_become_X6_copy rfl rfl rfl (by decide +kernel) ⟨(Nat.le_of_ble_eq_true rfl), (Nat.le_of_ble_eq_true rfl)⟩) 9 0 rfl rfl rfl hl.1 rfl (Nat.le_of_ble_eq_true rfl) dX6_become_45 ⟨(Nat.le_of_ble_eq_true rfl), (Nat.le_of_ble_eq_true rfl)⟩ rfl (fun H locs hP hD hS => ?_)
  obtain ⟨V_5, eV_5, h⟩ := lt_I h
  have hP : va_P D vwCl (ms cI u o V_5 v_3 ++ (mo cI o s0 u0 M k ++ (ms cI q o T t ++ rs))) H := by rw [eV_5]; exact hP
  have hD : va_D A (ms cI u o V_5 v_3 ++ (mo cI o s0 u0 M k ++ (ms cI q o T t ++ rs))) := by rw [eV_5]; exact hD
  refine lv_aload_n hx hb dX6_become_48 rfl (lv_at hl 0 rfl) ?_
  refine lv_aload_n hx hb dX6_become_49 rfl (lv_at hl 1 rfl) ?_
  refine va_get (ci := 9) (v := .ref (q 3)) (C := RX6) (T := TX6) (N := 8) hx hb hts hi_X6 hown hK hP 14 rfl rfl 5 (by decide) (hts (.fieldLink RX6 26 "WishWellModel$State" "how" "[I") (List.mem_of_getElem? (i := 6) rfl)) (fun _ h9 => h9) rfl dX6_become_50 ?_
  refine lv_aload_n hx hb dX6_become_53 rfl (lv_at hl 0 rfl) ?_
  refine va_get (ci := 9) (v := .ref (u 3)) (C := RX6) (T := TX6) (N := 8) hx hb hts hi_X6 hown hK hP 0 rfl rfl 5 (by decide) (hts (.fieldLink RX6 26 "WishWellModel$State" "how" "[I") (List.mem_of_getElem? (i := 6) rfl)) (fun _ h9 => h9) rfl dX6_become_54 ?_
  refine kVv (As := [.ref (q 3), .ref (u 3)]) (rest := []) B hK hN hP hD hS hA (c_X6_copy l D cI cJ _ (ms cI u o (uG V_5 2 (rCp 24 (T 2) (V_5 2))) v_3 ++ (mo cI o s0 u0 M k ++ (ms cI q o T t ++ rs))) _ _ _ 24 (T 2) (V_5 2) 17 3 rfl rfl (by decide) rfl) (cwV 2 hts gX6_become_X6_copy rfl rfl rfl (by decide +kernel) ⟨(Nat.le_of_ble_eq_true rfl), (Nat.le_of_ble_eq_true rfl)⟩) 9 0 rfl rfl rfl hl.1 rfl (Nat.le_of_ble_eq_true rfl) dX6_become_57 ⟨(Nat.le_of_ble_eq_true rfl), (Nat.le_of_ble_eq_true rfl)⟩ rfl (fun H locs hP hD hS => ?_)
  obtain ⟨V_6, eV_6, h⟩ := lt_I h
  have hP : va_P D vwCl (ms cI u o V_6 v_3 ++ (mo cI o s0 u0 M k ++ (ms cI q o T t ++ rs))) H := by rw [eV_6]; exact hP
  have hD : va_D A (ms cI u o V_6 v_3 ++ (mo cI o s0 u0 M k ++ (ms cI q o T t ++ rs))) := by rw [eV_6]; exact hD
  refine lv_aload_n hx hb dX6_become_60 rfl (lv_at hl 0 rfl) ?_
  refine lv_aload_n hx hb dX6_become_61 rfl (lv_at hl 1 rfl) ?_
  refine va_get (ci := 9) (v := .ref (q 4)) (C := RX6) (T := TX6) (N := 8) hx hb hts hi_X6 hown hK hP 14 rfl rfl 6 (by decide) (hts (.fieldLink RX6 29 "WishWellModel$State" "when" "[I") (List.mem_of_getElem? (i := 7) rfl)) (fun _ h9 => h9) rfl dX6_become_62 ?_
  refine lv_aload_n hx hb dX6_become_65 rfl (lv_at hl 0 rfl) ?_
  refine va_get (ci := 9) (v := .ref (u 4)) (C := RX6) (T := TX6) (N := 8) hx hb hts hi_X6 hown hK hP 0 rfl rfl 6 (by decide) (hts (.fieldLink RX6 29 "WishWellModel$State" "when" "[I") (List.mem_of_getElem? (i := 7) rfl)) (fun _ h9 => h9) rfl dX6_become_66 ?_
  refine kVv (As := [.ref (q 4), .ref (u 4)]) (rest := []) B hK hN hP hD hS hA (c_X6_copy l D cI cJ _ (ms cI u o (uG V_6 3 (rCp 24 (T 3) (V_6 3))) v_3 ++ (mo cI o s0 u0 M k ++ (ms cI q o T t ++ rs))) _ _ _ 24 (T 3) (V_6 3) 18 4 rfl rfl (by decide) rfl) (cwV 2 hts gX6_become_X6_copy rfl rfl rfl (by decide +kernel) ⟨(Nat.le_of_ble_eq_true rfl), (Nat.le_of_ble_eq_true rfl)⟩) 9 0 rfl rfl rfl hl.1 rfl (Nat.le_of_ble_eq_true rfl) dX6_become_69 ⟨(Nat.le_of_ble_eq_true rfl), (Nat.le_of_ble_eq_true rfl)⟩ rfl (fun H locs hP hD hS => ?_)
  obtain ⟨V_7, eV_7, h⟩ := lt_I h
  have hP : va_P D vwCl (ms cI u o V_7 v_3 ++ (mo cI o s0 u0 M k ++ (ms cI q o T t ++ rs))) H := by rw [eV_7]; exact hP
  have hD : va_D A (ms cI u o V_7 v_3 ++ (mo cI o s0 u0 M k ++ (ms cI q o T t ++ rs))) := by rw [eV_7]; exact hD
  obtain ⟨h0, h1⟩ := o2 h
  exact eV hx hb hr hlk hP hS dX6_become_72 (Nat.le_of_ble_eq_true rfl) (Nat.le_of_ble_eq_true rfl) (by rw [h0, h1])
