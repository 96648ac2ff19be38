/-! WishWell$Row: its four methods over any world that holds the row and its cells -/
theorem rAt_0 {n : Nat} {f : Nat → Int32} {i : Int32} (h : i < 0) : 0 = rAt n f i := by simp only [rAt, if_pos h]
theorem rAt_1 {n : Nat} {f : Nat → Int32} {i : Int32} (h : ¬ i < 0) (h2 : nI n ≤ i) : 0 = rAt n f i := by simp only [rAt, if_neg h, if_pos h2]
theorem rAt_2 {n : Nat} {f : Nat → Int32} {i : Int32} (h : ¬ i < 0) (h2 : ¬ nI n ≤ i) : f i.toNatClampNeg = rAt n f i := by simp only [rAt, if_neg h, if_neg h2]
abbrev rm0_0 : Room := { frames := 0, cells := 0, slots := 0, locals := 0 }
set_option maxHeartbeats 4000000 in
set_option maxRecDepth 100000 in
theorem c_X2_at (l : Launch) (D : va_G) (cI cJ : ClassId) (w : va_W) (h0 h1 n : Nat) (f : Nat → Int32) (q0 q1 : Nat) (e0 : w[q0]? = some (h0, .inr (5, [.ref h1]))) (e1 : w[q1]? = some (h1, .inl (cI, n, .inl f))) (hn : n < 2 ^ 31) (i : Int32) : Ci l yX2_at wsX2_at rm0_0 D cI cJ [.ref h0, .int i] w (rAt n f i) w := by
  refine Ci.mk (cc := cX2_at) (maxL := 2) (ret := some .int) (by decide) rfl (Nat.le_of_ble_eq_true rfl) ?_
  intro p e s m below meth c A ls B hr hlk hK hN hA hP hD hl
  obtain ⟨hx, hb, hml, hown, hts⟩ := id B
  have hS : va_S A s.heap s.heap [] := va_S.rf
  have hl : lv_has ls 2 [(0, .ref h0), (1, .int i)] := hl
  refine lv_iload_n hx hb dX2_at_0 rfl (lv_at hl 1 rfl) ?_
  refine lv_if_lt (tgt := 22) hx hb dX2_at_1 (by decide) (fun c_1 => ?_) (fun c_1 => ?_)
  · refine lv_iconst (v := 0) hx hb dX2_at_22 (by decide) ?_
    exact eI hx hb hr hlk hP hS dX2_at_23 (Nat.le_of_ble_eq_true rfl) (Nat.le_of_ble_eq_true rfl) (rAt_0 c_1) rfl
  · refine lv_iload_n hx hb dX2_at_4 rfl (lv_at hl 1 rfl) ?_
    refine lv_aload_n hx hb dX2_at_5 rfl (lv_at hl 0 rfl) ?_
    refine va_get (ci := 5) (v := .ref h1) (C := RX2) (T := TX2) (N := 1) hx hb hts (by decide +kernel) hown hK hP q0 e0 rfl 0 (by decide) (hts (.fieldLink RX2 7 "WishWell$Row" "cells" "[I") (List.mem_of_getElem? (i := 1) rfl)) (fun _ h9 => h9) rfl dX2_at_6 ?_
    refine va_alen (v := nI n) hx hb hK hP q1 0 e1 rfl rfl dX2_at_9 ?_
    refine lv_icmp_ge (tgt := 22) hx hb dX2_at_10 (by decide) (fun c_2 => ?_) (fun c_2 => ?_)
    · refine lv_iconst (v := 0) hx hb dX2_at_22 (by decide) ?_
      exact eI hx hb hr hlk hP hS dX2_at_23 (Nat.le_of_ble_eq_true rfl) (Nat.le_of_ble_eq_true rfl) (rAt_1 c_1 c_2) rfl
    · refine lv_aload_n hx hb dX2_at_13 rfl (lv_at hl 0 rfl) ?_
      refine va_get (ci := 5) (v := .ref h1) (C := RX2) (T := TX2) (N := 1) hx hb hts (by decide +kernel) hown hK hP q0 e0 rfl 0 (by decide) (hts (.fieldLink RX2 7 "WishWell$Row" "cells" "[I") (List.mem_of_getElem? (i := 1) rfl)) (fun _ h9 => h9) rfl dX2_at_14 ?_
      refine lv_iload_n hx hb dX2_at_17 rfl (lv_at hl 1 rfl) ?_
      refine va_iald hx hb hK hP q1 0 e1 rfl (r_in hn c_1 c_2) dX2_at_18 ?_
      refine lv_goto (tgt := 23) hx hb dX2_at_19 (by decide) ?_
      exact eI hx hb hr hlk hP hS dX2_at_23 (Nat.le_of_ble_eq_true rfl) (Nat.le_of_ble_eq_true rfl) (rAt_2 c_1 c_2) rfl
set_option maxHeartbeats 4000000 in
set_option maxRecDepth 100000 in
theorem c_X2_put (l : Launch) (D : va_G) (cI cJ : ClassId) (w w' : va_W) (h0 h1 n : Nat) (f : Nat → Int32) (q0 q1 : Nat) (e0 : w[q0]? = some (h0, .inr (5, [.ref h1]))) (e1 : w[q1]? = some (h1, .inl (cI, n, .inl f))) (hn : n < 2 ^ 31) (i x : Int32) (ew : w.set q1 (h1, .inl (cI, n, .inl (rPut n f i x))) = w') (ew0 : w.set q1 (h1, .inl (cI, n, .inl f)) = w) : Cv l yX2_put wsX2_put rm0_0 D cI cJ [.ref h0, .int i, .int x] w w' := by
  refine Cv.mk (cc := cX2_put) (maxL := 3) (ret := none) (by decide) rfl (Nat.le_of_ble_eq_true rfl) ?_
  intro p e s m below meth c A ls B hr hlk hK hN hA hP hD hl
  obtain ⟨hx, hb, hml, hown, hts⟩ := id B
  have hS : va_S A s.heap s.heap [] := va_S.rf
  have hl : lv_has ls 3 [(0, .ref h0), (1, .int i), (2, .int x)] := hl
  refine lv_iload_n hx hb dX2_put_0 rfl (lv_at hl 1 rfl) ?_
  refine lv_if_lt (tgt := 20) hx hb dX2_put_1 (by decide) (fun c_1 => ?_) (fun c_1 => ?_)
  · exact eV hx hb hr hlk hP hS dX2_put_20 (Nat.le_of_ble_eq_true rfl) (Nat.le_of_ble_eq_true rfl) (by rw [← ew]; simp only [rPut, if_pos c_1]; exact ew0.symm)
  · refine lv_iload_n hx hb dX2_put_4 rfl (lv_at hl 1 rfl) ?_
    refine lv_aload_n hx hb dX2_put_5 rfl (lv_at hl 0 rfl) ?_
    refine va_get (ci := 5) (v := .ref h1) (C := RX2) (T := TX2) (N := 1) hx hb hts (by decide +kernel) hown hK hP q0 e0 rfl 0 (by decide) (hts (.fieldLink RX2 7 "WishWell$Row" "cells" "[I") (List.mem_of_getElem? (i := 1) rfl)) (fun _ h9 => h9) rfl dX2_put_6 ?_
    refine va_alen (v := nI n) hx hb hK hP q1 0 e1 rfl rfl dX2_put_9 ?_
    refine lv_icmp_ge (tgt := 20) hx hb dX2_put_10 (by decide) (fun c_2 => ?_) (fun c_2 => ?_)
    · exact eV hx hb hr hlk hP hS dX2_put_20 (Nat.le_of_ble_eq_true rfl) (Nat.le_of_ble_eq_true rfl) (by rw [← ew]; simp only [rPut, if_neg c_1]; rw [if_pos c_2]; exact ew0.symm)
    · refine lv_aload_n hx hb dX2_put_13 rfl (lv_at hl 0 rfl) ?_
      refine va_get (ci := 5) (v := .ref h1) (C := RX2) (T := TX2) (N := 1) hx hb hts (by decide +kernel) hown hK hP q0 e0 rfl 0 (by decide) (hts (.fieldLink RX2 7 "WishWell$Row" "cells" "[I") (List.mem_of_getElem? (i := 1) rfl)) (fun _ h9 => h9) rfl dX2_put_14 ?_
      refine lv_iload_n hx hb dX2_put_17 rfl (lv_at hl 1 rfl) ?_
      refine lv_iload_n hx hb dX2_put_18 rfl (lv_at hl 2 rfl) ?_
      refine va_iast hx hb hK hP hD hS q1 0 e1 rfl (r_in hn c_1 c_2) dX2_put_19 (fun H locs hP hD hS => ?_)
      exact eV hx hb hr hlk hP hS dX2_put_20 (Nat.le_of_ble_eq_true rfl) (Nat.le_of_ble_eq_true rfl) (by rw [← ew]; simp only [rPut, if_neg c_1]; rw [if_neg c_2])
set_option maxHeartbeats 4000000 in
set_option maxRecDepth 100000 in
theorem c_X2_add (l : Launch) (D : va_G) (cI cJ : ClassId) (w w' : va_W) (h0 h1 n : Nat) (f : Nat → Int32) (q0 q1 : Nat) (e0 : w[q0]? = some (h0, .inr (5, [.ref h1]))) (e1 : w[q1]? = some (h1, .inl (cI, n, .inl f))) (hn : n < 2 ^ 31) (i x : Int32) (ew : w.set q1 (h1, .inl (cI, n, .inl (rAdd n f i x))) = w') (ew0 : w.set q1 (h1, .inl (cI, n, .inl f)) = w) : Cv l yX2_add wsX2_add rm0_0 D cI cJ [.ref h0, .int i, .int x] w w' := by
  refine Cv.mk (cc := cX2_add) (maxL := 3) (ret := none) (by decide) rfl (Nat.le_of_ble_eq_true rfl) ?_
  intro p e s m below meth c A ls B hr hlk hK hN hA hP hD hl
  obtain ⟨hx, hb, hml, hown, hts⟩ := id B
  have hS : va_S A s.heap s.heap [] := va_S.rf
  have hl : lv_has ls 3 [(0, .ref h0), (1, .int i), (2, .int x)] := hl
  refine lv_iload_n hx hb dX2_add_0 rfl (lv_at hl 1 rfl) ?_
  refine lv_if_lt (tgt := 23) hx hb dX2_add_1 (by decide) (fun c_1 => ?_) (fun c_1 => ?_)
  · exact eV hx hb hr hlk hP hS dX2_add_23 (Nat.le_of_ble_eq_true rfl) (Nat.le_of_ble_eq_true rfl) (by rw [← ew]; simp only [rAdd, if_pos c_1]; exact ew0.symm)
  · refine lv_iload_n hx hb dX2_add_4 rfl (lv_at hl 1 rfl) ?_
    refine lv_aload_n hx hb dX2_add_5 rfl (lv_at hl 0 rfl) ?_
    refine va_get (ci := 5) (v := .ref h1) (C := RX2) (T := TX2) (N := 1) hx hb hts (by decide +kernel) hown hK hP q0 e0 rfl 0 (by decide) (hts (.fieldLink RX2 7 "WishWell$Row" "cells" "[I") (List.mem_of_getElem? (i := 1) rfl)) (fun _ h9 => h9) rfl dX2_add_6 ?_
    refine va_alen (v := nI n) hx hb hK hP q1 0 e1 rfl rfl dX2_add_9 ?_
    refine lv_icmp_ge (tgt := 23) hx hb dX2_add_10 (by decide) (fun c_2 => ?_) (fun c_2 => ?_)
    · exact eV hx hb hr hlk hP hS dX2_add_23 (Nat.le_of_ble_eq_true rfl) (Nat.le_of_ble_eq_true rfl) (by rw [← ew]; simp only [rAdd, if_neg c_1]; rw [if_pos c_2]; exact ew0.symm)
    · refine lv_aload_n hx hb dX2_add_13 rfl (lv_at hl 0 rfl) ?_
      refine va_get (ci := 5) (v := .ref h1) (C := RX2) (T := TX2) (N := 1) hx hb hts (by decide +kernel) hown hK hP q0 e0 rfl 0 (by decide) (hts (.fieldLink RX2 7 "WishWell$Row" "cells" "[I") (List.mem_of_getElem? (i := 1) rfl)) (fun _ h9 => h9) rfl dX2_add_14 ?_
      refine lv_iload_n hx hb dX2_add_17 rfl (lv_at hl 1 rfl) ?_
      refine lv_dup2_11 hx hb dX2_add_18 rfl rfl ?_
      refine va_iald hx hb hK hP q1 0 e1 rfl (r_in hn c_1 c_2) dX2_add_19 ?_
      refine lv_iload_n hx hb dX2_add_20 rfl (lv_at hl 2 rfl) ?_
      refine lv_iadd hx hb dX2_add_21 ?_
      refine va_iast hx hb hK hP hD hS q1 0 e1 rfl (r_in hn c_1 c_2) dX2_add_22 (fun H locs hP hD hS => ?_)
      exact eV hx hb hr hlk hP hS dX2_add_23 (Nat.le_of_ble_eq_true rfl) (Nat.le_of_ble_eq_true rfl) (by rw [← ew]; simp only [rAdd, if_neg c_1]; rw [if_neg c_2])
/-- the rows' copy: as many as the row holds -/
def rCp (n : Nat) (f g : Nat → Int32) : Nat → Int32 := va_cpy f g 0 0 n
set_option maxHeartbeats 4000000 in
set_option maxRecDepth 100000 in
theorem c_X2_takeOver (l : Launch) (D : va_G) (cI cJ : ClassId) (w w' : va_W) (h0 h1 k0 k1 n : Nat) (f g : Nat → Int32) (q0 q1 q2 q3 : Nat) (e0 : w[q0]? = some (h0, .inr (5, [.ref h1]))) (e1 : w[q1]? = some (h1, .inl (cI, n, .inl g))) (e2 : w[q2]? = some (k0, .inr (5, [.ref k1]))) (e3 : w[q3]? = some (k1, .inl (cI, n, .inl f))) (hn : n < 2 ^ 31) (ew : w.set q1 (h1, .inl (cI, n, .inl (rCp n f g))) = w') : Cv l yX2_takeOver wsX2_takeOver ({ frames := 1, cells := 0, slots := 0, locals := 60 }) D cI cJ [.ref h0, .ref k0] w w' := by
  refine Cv.mk (cc := cX2_takeOver) (maxL := 2) (ret := none) (by decide) rfl (Nat.le_of_ble_eq_true rfl) ?_
  intro p e s m below meth c A ls B hr hlk hK hN hA hP hD hl
  obtain ⟨hx, hb, hml, hown, hts⟩ := id B
  have hS : va_S A s.heap s.heap [] := va_S.rf
  have hl : lv_has ls 2 [(0, .ref h0), (1, .ref k0)] := hl
  have hi := (by decide +kernel : ∀ w ∈ u_ws RX2 TX2 1, w ∈ wsX2_takeOver)
  refine lv_aload_n hx hb dX2_takeOver_0 rfl (lv_at hl 1 rfl) ?_
  refine va_get (ci := 5) (v := .ref k1) (C := RX2) (T := TX2) (N := 1) hx hb hts hi hown hK hP q2 e2 rfl 0 (by decide) (hts (.fieldLink RX2 7 "WishWell$Row" "cells" "[I") (List.mem_of_getElem? (i := 1) rfl)) (fun _ h9 => h9) rfl dX2_takeOver_1 ?_
  refine lv_iconst (v := 0) hx hb dX2_takeOver_4 (by decide) ?_
  refine lv_aload_n hx hb dX2_takeOver_5 rfl (lv_at hl 0 rfl) ?_
  refine va_get (ci := 5) (v := .ref h1) (C := RX2) (T := TX2) (N := 1) hx hb hts hi hown hK hP q0 e0 rfl 0 (by decide) (hts (.fieldLink RX2 7 "WishWell$Row" "cells" "[I") (List.mem_of_getElem? (i := 1) rfl)) (fun _ h9 => h9) rfl dX2_takeOver_6 ?_
  refine lv_iconst (v := 0) hx hb dX2_takeOver_9 (by decide) ?_
  refine lv_aload_n hx hb dX2_takeOver_10 rfl (lv_at hl 1 rfl) ?_
  refine va_get (ci := 5) (v := .ref k1) (C := RX2) (T := TX2) (N := 1) hx hb hts hi hown hK hP q2 e2 rfl 0 (by decide) (hts (.fieldLink RX2 7 "WishWell$Row" "cells" "[I") (List.mem_of_getElem? (i := 1) rfl)) (fun _ h9 => h9) rfl dX2_takeOver_11 ?_
  refine va_alen (v := nI n) hx hb hK hP q3 0 e3 rfl rfl dX2_takeOver_14 ?_
  refine lv_aload_n hx hb dX2_takeOver_15 rfl (lv_at hl 0 rfl) ?_
  refine va_get (ci := 5) (v := .ref h1) (C := RX2) (T := TX2) (N := 1) hx hb hts hi hown hK hP q0 e0 rfl 0 (by decide) (hts (.fieldLink RX2 7 "WishWell$Row" "cells" "[I") (List.mem_of_getElem? (i := 1) rfl)) (fun _ h9 => h9) rfl dX2_takeOver_16 ?_
  refine va_alen (v := nI n) hx hb hK hP q1 0 e1 rfl rfl dX2_takeOver_19 ?_
  refine va_mmin hx hb (hml.trans hl.1.symm) hown (hts (.methodLink RX2 13 Lib.Math.min.name) (List.mem_of_getElem? (i := 2) rfl)) (hts (.static Lib.Math.min.name) (List.mem_of_getElem? (i := 3) rfl)) (hts (.initialized "java/lang/Math") (List.mem_of_getElem? (i := 4) rfl)) (hts (.code Lib.Math.min.name Lib.Math.min.code 2 (some .int)) (List.mem_of_getElem? (i := 5) rfl)) (Nat.le_of_ble_eq_true rfl) (Nat.le_of_ble_eq_true rfl) (Nat.le_of_ble_eq_true rfl) (Nat.le_of_ble_eq_true rfl) dX2_takeOver_20 ?_
  have hmin : (if nI n < nI n then nI n else nI n) = nI n := by split <;> rfl
  rw [hmin]
  have hcl : (nI n).toNatClampNeg = n := nI_clamp hn
  refine va_copyi hx hb (hml.trans hl.1.symm) hown (hts (.methodLink RX2 19 arraycopyName) (List.mem_of_getElem? (i := 6) rfl)) (hts (.native arraycopyName) (List.mem_of_getElem? (i := 7) rfl)) (hts (.static arraycopyName) (List.mem_of_getElem? (i := 8) rfl)) (hts (.initialized "java/lang/System") (List.mem_of_getElem? (i := 9) rfl)) hK hP hD hS q3 q1 0 0 e3 e1 rfl rfl rfl (by decide) (by decide) (nI_pos hn) (by rw [hcl]; show 0 + n ≤ n; omega) (by rw [hcl]; show 0 + n ≤ n; omega) (fun i _ => rfl) (Nat.le_of_ble_eq_true rfl) (by decide +kernel) dX2_takeOver_23 (fun H locs hP hD hS => ?_)
  exact eV hx hb hr hlk hP hS dX2_takeOver_26 (Nat.le_of_ble_eq_true rfl) (Nat.le_of_ble_eq_true rfl) (by rw [← ew, hcl]; rfl)
