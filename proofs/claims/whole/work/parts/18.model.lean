/-! laid by wip/whole/gen.py -/
noncomputable def fX7_thrown (k : Nat → Int32) : Int32 := k 0
set_option maxHeartbeats 4000000 in
set_option maxRecDepth 100000 in
theorem c_X7_thrown (l : Launch) (D : va_G) (cI cJ : ClassId) (q u o : Nat → Nat) (T : Nat → Nat → Int32) (t : Nat → Int32) (M : Nat → Nat → Int32) (k : Nat → Int32) (V : Nat → Nat → Int32) (v : Nat → Int32) (rs : va_W) (r' : Int32) (h : fX7_thrown k = r') : Ci l yX7_thrown wsX7_thrown ({ frames := 0, cells := 0, slots := 0, locals := 0 } : Room) D cI cJ ([.ref (o 0)] : List Value) (ms cI q o T t ++ (mo cI o (q 0) (u 0) M k ++ (ms cI u o V v ++ rs))) r' (ms cI q o T t ++ (mo cI o (q 0) (u 0) M k ++ (ms cI u o V v ++ rs))) := by
  refine Ci.mk (cc := cX7_thrown) (maxL := 1) (ret := (some .int)) (by decide) rfl (Nat.le_of_ble_eq_true rfl) ?_
  intro p e s m below meth c A ls B hr hlk hK hN hA hP hD hl
  obtain ⟨hx, hb, hml, hown, hts⟩ := id B
  have hi_X7 : ∀ w ∈ wsX70, w ∈ wsX7_thrown := fun _ h => List.mem_cons_of_mem _ (List.mem_append_right _ (h))
  have hS : va_S A s.heap s.heap [] := va_S.rf
  have hl : lv_has ls 1 [(0, .ref (o 0))] := hl
  unfold fX7_thrown at h
  refine lv_aload_n hx hb dX7_thrown_0 rfl (lv_at hl 0 rfl) ?_
  refine va_get (ci := 10) (v := .int (k 0)) (C := RX7) (T := TX7) (N := 15) hx hb hts hi_X7 hown hK hP 5 rfl rfl 0 (by decide) (hts (.fieldLink RX7 46 "WishWellModel" "thrown" "I") (List.mem_of_getElem? (i := 1) rfl)) (fun _ h9 => h9) rfl dX7_thrown_1 ?_
  exact eI hx hb hr hlk hP hS dX7_thrown_4 (Nat.le_of_ble_eq_true rfl) (Nat.le_of_ble_eq_true rfl) h rfl
noncomputable def fX7_no (k : Nat → Int32) (p0 : Int32) : Option (Int32 × (Nat → Int32)) := lt_ (uS k 0 p0) (fun k_1 => some (0, k_1))
set_option maxHeartbeats 4000000 in
set_option maxRecDepth 100000 in
theorem c_X7_no (l : Launch) (D : va_G) (cI cJ : ClassId) (q u o : Nat → Nat) (T : Nat → Nat → Int32) (t : Nat → Int32) (M : Nat → Nat → Int32) (k : Nat → Int32) (V : Nat → Nat → Int32) (v : Nat → Int32) (p0 : Int32) (r' : Int32) (k' : Nat → Int32) (rs : va_W) (h : fX7_no k p0 = some (r', k')) : Ci l yX7_no wsX7_no ({ frames := 0, cells := 0, slots := 0, locals := 0 } : Room) D cI cJ ([.ref (o 0), .int p0] : List Value) (ms cI q o T t ++ (mo cI o (q 0) (u 0) M k ++ (ms cI u o V v ++ rs))) r' (ms cI q o T t ++ (mo cI o (q 0) (u 0) M k' ++ (ms cI u o V v ++ rs))) := by
  refine Ci.mk (cc := cX7_no) (maxL := 2) (ret := (some .int)) (by decide) rfl (Nat.le_of_ble_eq_true rfl) ?_
  intro p e s m below meth c A ls B hr hlk hK hN hA hP hD hl
  obtain ⟨hx, hb, hml, hown, hts⟩ := id B
  have hi_X7 : ∀ w ∈ wsX70, w ∈ wsX7_no := fun _ h => List.mem_cons_of_mem _ (List.mem_append_right _ (h))
  have hS : va_S A s.heap s.heap [] := va_S.rf
  have hl : lv_has ls 2 [(0, .ref (o 0)), (1, .int p0)] := hl
  unfold fX7_no at h
  refine lv_aload_n hx hb dX7_no_0 rfl (lv_at hl 0 rfl) ?_
  refine lv_iload_n hx hb dX7_no_1 rfl (lv_at hl 1 rfl) ?_
  refine va_put (D := D) (ci := 10) (v := .int p0) (ty := .int) (C := RX7) (T := TX7) (N := 15) hx hb hts hi_X7 tyX7 tyX7_ok nmX7 hown hK hP hD hS 5 rfl rfl 0 (by decide) (hts (.fieldLink RX7 46 "WishWellModel" "thrown" "I") (List.mem_of_getElem? (i := 1) rfl)) (fun _ h9 => h9) rfl (by decide +kernel) rfl rfl (Nat.le_of_ble_eq_true rfl) dX7_no_2 (fun H locs hP hD hS => ?_)
  obtain ⟨k_1, ek_1, h⟩ := lt_I h
  have hP : va_P D vwCl (ms cI q o T t ++ (mo cI o (q 0) (u 0) M k_1 ++ (ms cI u o V v ++ rs))) H := by rw [ek_1]; exact hP
  have hD : va_D A (ms cI q o T t ++ (mo cI o (q 0) (u 0) M k_1 ++ (ms cI u o V v ++ rs))) := by rw [ek_1]; exact hD
  refine lv_iconst (v := 0) hx hb dX7_no_5 (by decide) ?_
  obtain ⟨h0, h1⟩ := o2 h
  exact eI hx hb hr hlk hP hS dX7_no_6 (Nat.le_of_ble_eq_true rfl) (Nat.le_of_ble_eq_true rfl) h0 (by rw [h1])
noncomputable def fX7_isIn (p0 : Int32) (p1 : Int32) (p2 : Int32) : Int32 := if p0 < p1 then (0) else (if p2 < p0 then (0) else (1))
set_option maxHeartbeats 4000000 in
set_option maxRecDepth 100000 in
theorem c_X7_isIn (l : Launch) (D : va_G) (cI cJ : ClassId) (p0 : Int32) (p1 : Int32) (p2 : Int32) (w : va_W) (r' : Int32) (h : fX7_isIn p0 p1 p2 = r') : Ci l yX7_isIn wsX7_isIn ({ frames := 0, cells := 0, slots := 0, locals := 0 } : Room) D cI cJ ([.int p0, .int p1, .int p2] : List Value) (w) r' (w) := by
  refine Ci.mk (cc := cX7_isIn) (maxL := 3) (ret := (some .boolean)) (by decide) rfl (Nat.le_of_ble_eq_true rfl) ?_
  intro p e s m below meth c A ls B hr hlk hK hN hA hP hD hl
  obtain ⟨hx, hb, hml, hown, hts⟩ := id B
  have hS : va_S A s.heap s.heap [] := va_S.rf
  have hl : lv_has ls 3 [(0, .int p0), (1, .int p1), (2, .int p2)] := hl
  unfold fX7_isIn at h
  refine lv_iload_n hx hb dX7_isIn_0 rfl (lv_at hl 0 rfl) ?_
  refine lv_iload_n hx hb dX7_isIn_1 rfl (lv_at hl 1 rfl) ?_
  refine lv_icmp_lt (tgt := 14) hx hb dX7_isIn_2 (by decide) (fun c_1 => ?_) (fun c_1 => ?_)
  · have h := ip_ h c_1
    refine lv_iconst (v := 0) hx hb dX7_isIn_14 (by decide) ?_
    exact eZ hx hb hr nar0 hlk hP hS dX7_isIn_15 (Nat.le_of_ble_eq_true rfl) (Nat.le_of_ble_eq_true rfl) h rfl
  · have h := in_ h c_1
    refine lv_iload_n hx hb dX7_isIn_5 rfl (lv_at hl 0 rfl) ?_
    refine lv_iload_n hx hb dX7_isIn_6 rfl (lv_at hl 2 rfl) ?_
    refine lv_icmp_gt (tgt := 14) hx hb dX7_isIn_7 (by decide) (fun c_2 => ?_) (fun c_2 => ?_)
    · have h := ip_ h c_2
      refine lv_iconst (v := 0) hx hb dX7_isIn_14 (by decide) ?_
      exact eZ hx hb hr nar0 hlk hP hS dX7_isIn_15 (Nat.le_of_ble_eq_true rfl) (Nat.le_of_ble_eq_true rfl) h rfl
    · have h := in_ h c_2
      refine lv_iconst (v := 1) hx hb dX7_isIn_10 (by decide) ?_
      refine lv_goto (tgt := 15) hx hb dX7_isIn_11 (by decide) ?_
      exact eZ hx hb hr nar1 hlk hP hS dX7_isIn_15 (Nat.le_of_ble_eq_true rfl) (Nat.le_of_ble_eq_true rfl) h rfl
theorem nb_X7_isIn (p0 : Int32) (p1 : Int32) (p2 : Int32) : nbo (fX7_isIn p0 p1 p2) := by
  unfold fX7_isIn
  (repeat' split) <;> first | exact nar0 | exact nar1 | exact nar0
noncomputable def fX7_isLayer (p0 : Int32) : Int32 := fX7_isIn p0 0 4
set_option maxHeartbeats 4000000 in
set_option maxRecDepth 100000 in
theorem c_X7_isLayer (l : Launch) (D : va_G) (cI cJ : ClassId) (p0 : Int32) (w : va_W) (r' : Int32) (h : fX7_isLayer p0 = r') : Ci l yX7_isLayer wsX7_isLayer ({ frames := 1, cells := 0, slots := 0, locals := 22 } : Room) D cI cJ ([.int p0] : List Value) (w) r' (w) := by
  refine Ci.mk (cc := cX7_isLayer) (maxL := 1) (ret := (some .boolean)) (by decide) rfl (Nat.le_of_ble_eq_true rfl) ?_
  intro p e s m below meth c A ls B hr hlk hK hN hA hP hD hl
  obtain ⟨hx, hb, hml, hown, hts⟩ := id B
  have hS : va_S A s.heap s.heap [] := va_S.rf
  have hl : lv_has ls 1 [(0, .int p0)] := hl
  unfold fX7_isLayer at h
  refine lv_iload_n hx hb dX7_isLayer_0 rfl (lv_at hl 0 rfl) ?_
  refine lv_iconst (v := 0) hx hb dX7_isLayer_1 (by decide) ?_
  refine lv_iconst (v := 4) hx hb dX7_isLayer_2 (by decide) ?_
  refine kSi (As := [.int p0, .int 0, .int 4]) (rest := []) B hK hN hP hD hS hA (c_X7_isIn l D cI cJ  p0 0 4 (w) _ rfl) (va_cwS 3 hts gX7_isLayer_X7_isIn rfl rfl rfl (by decide +kernel) ⟨(Nat.le_of_ble_eq_true rfl), (Nat.le_of_ble_eq_true rfl)⟩) rfl hl.1 rfl (Nat.le_of_ble_eq_true rfl) dX7_isLayer_3 ⟨(Nat.le_of_ble_eq_true rfl), (Nat.le_of_ble_eq_true rfl)⟩ rfl (fun H locs hP hD hS => ?_)
  exact eZ hx hb hr (nb_X7_isIn _ _ _) hlk hP hS dX7_isLayer_6 (Nat.le_of_ble_eq_true rfl) (Nat.le_of_ble_eq_true rfl) h rfl
theorem nb_X7_isLayer (p0 : Int32) : nbo (fX7_isLayer p0) := by
  unfold fX7_isLayer
  (repeat' split) <;> first | exact nar0 | exact nar1 | exact nb_X7_isIn _ _ _
noncomputable def fX7_isLand (k : Nat → Int32) (p0 : Int32) : Int32 := fX7_isIn p0 0 ((k 1) - 1)
set_option maxHeartbeats 4000000 in
set_option maxRecDepth 100000 in
theorem c_X7_isLand (l : Launch) (D : va_G) (cI cJ : ClassId) (q u o : Nat → Nat) (T : Nat → Nat → Int32) (t : Nat → Int32) (M : Nat → Nat → Int32) (k : Nat → Int32) (V : Nat → Nat → Int32) (v : Nat → Int32) (p0 : Int32) (rs : va_W) (r' : Int32) (h : fX7_isLand k p0 = r') : Ci l yX7_isLand wsX7_isLand ({ frames := 1, cells := 0, slots := 0, locals := 22 } : Room) D cI cJ ([.ref (o 0), .int p0] : List Value) (ms cI q o T t ++ (mo cI o (q 0) (u 0) M k ++ (ms cI u o V v ++ rs))) r' (ms cI q o T t ++ (mo cI o (q 0) (u 0) M k ++ (ms cI u o V v ++ rs))) := by
  refine Ci.mk (cc := cX7_isLand) (maxL := 2) (ret := (some .boolean)) (by decide) rfl (Nat.le_of_ble_eq_true rfl) ?_
  intro p e s m below meth c A ls B hr hlk hK hN hA hP hD hl
  obtain ⟨hx, hb, hml, hown, hts⟩ := id B
  have hi_X7 : ∀ w ∈ wsX70, w ∈ wsX7_isLand := fun _ h => List.mem_cons_of_mem _ (List.mem_append_right _ (h))
  have hS : va_S A s.heap s.heap [] := va_S.rf
  have hl : lv_has ls 2 [(0, .ref (o 0)), (1, .int p0)] := hl
  unfold fX7_isLand at h
  refine lv_iload_n hx hb dX7_isLand_0 rfl (lv_at hl 1 rfl) ?_
  refine lv_iconst (v := 0) hx hb dX7_isLand_1 (by decide) ?_
  refine lv_aload_n hx hb dX7_isLand_2 rfl (lv_at hl 0 rfl) ?_
  refine va_get (ci := 10) (v := .int (k 1)) (C := RX7) (T := TX7) (N := 15) hx hb hts hi_X7 hown hK hP 5 rfl rfl 1 (by decide) (hts (.fieldLink RX7 50 "WishWellModel" "lands" "I") (List.mem_of_getElem? (i := 1) rfl)) (fun _ h9 => h9) rfl dX7_isLand_3 ?_
  refine lv_iconst (v := 1) hx hb dX7_isLand_6 (by decide) ?_
  refine lv_isub hx hb dX7_isLand_7 ?_
  refine kSi (As := [.int p0, .int 0, .int ((k 1) - 1)]) (rest := []) B hK hN hP hD hS hA (c_X7_isIn l D cI cJ  p0 0 ((k 1) - 1) (ms cI q o T t ++ (mo cI o (q 0) (u 0) M k ++ (ms cI u o V v ++ rs))) _ rfl) (va_cwS 3 hts gX7_isLand_X7_isIn rfl rfl rfl (by decide +kernel) ⟨(Nat.le_of_ble_eq_true rfl), (Nat.le_of_ble_eq_true rfl)⟩) rfl hl.1 rfl (Nat.le_of_ble_eq_true rfl) dX7_isLand_8 ⟨(Nat.le_of_ble_eq_true rfl), (Nat.le_of_ble_eq_true rfl)⟩ rfl (fun H locs hP hD hS => ?_)
  exact eZ hx hb hr (nb_X7_isIn _ _ _) hlk hP hS dX7_isLand_11 (Nat.le_of_ble_eq_true rfl) (Nat.le_of_ble_eq_true rfl) h rfl
theorem nb_X7_isLand (k : Nat → Int32) (p0 : Int32) : nbo (fX7_isLand k p0) := by
  unfold fX7_isLand
  (repeat' split) <;> first | exact nar0 | exact nar1 | exact nb_X7_isIn _ _ _
noncomputable def fX7_isWish (k : Nat → Int32) (p0 : Int32) : Int32 := fX7_isIn p0 0 ((k 2) - 1)
set_option maxHeartbeats 4000000 in
set_option maxRecDepth 100000 in
theorem c_X7_isWish (l : Launch) (D : va_G) (cI cJ : ClassId) (q u o : Nat → Nat) (T : Nat → Nat → Int32) (t : Nat → Int32) (M : Nat → Nat → Int32) (k : Nat → Int32) (V : Nat → Nat → Int32) (v : Nat → Int32) (p0 : Int32) (rs : va_W) (r' : Int32) (h : fX7_isWish k p0 = r') : Ci l yX7_isWish wsX7_isWish ({ frames := 1, cells := 0, slots := 0, locals := 22 } : Room) D cI cJ ([.ref (o 0), .int p0] : List Value) (ms cI q o T t ++ (mo cI o (q 0) (u 0) M k ++ (ms cI u o V v ++ rs))) r' (ms cI q o T t ++ (mo cI o (q 0) (u 0) M k ++ (ms cI u o V v ++ rs))) := by
  refine Ci.mk (cc := cX7_isWish) (maxL := 2) (ret := (some .boolean)) (by decide) rfl (Nat.le_of_ble_eq_true rfl) ?_
  intro p e s m below meth c A ls B hr hlk hK hN hA hP hD hl
  obtain ⟨hx, hb, hml, hown, hts⟩ := id B
  have hi_X7 : ∀ w ∈ wsX70, w ∈ wsX7_isWish := fun _ h => List.mem_cons_of_mem _ (List.mem_append_right _ (h))
  have hS : va_S A s.heap s.heap [] := va_S.rf
  have hl : lv_has ls 2 [(0, .ref (o 0)), (1, .int p0)] := hl
  unfold fX7_isWish at h
  refine lv_iload_n hx hb dX7_isWish_0 rfl (lv_at hl 1 rfl) ?_
  refine lv_iconst (v := 0) hx hb dX7_isWish_1 (by decide) ?_
  refine lv_aload_n hx hb dX7_isWish_2 rfl (lv_at hl 0 rfl) ?_
  refine va_get (ci := 10) (v := .int (k 2)) (C := RX7) (T := TX7) (N := 15) hx hb hts hi_X7 hown hK hP 5 rfl rfl 7 (by decide) (hts (.fieldLink RX7 57 "WishWellModel" "wishes" "I") (List.mem_of_getElem? (i := 1) rfl)) (fun _ h9 => h9) rfl dX7_isWish_3 ?_
  refine lv_iconst (v := 1) hx hb dX7_isWish_6 (by decide) ?_
  refine lv_isub hx hb dX7_isWish_7 ?_
  refine kSi (As := [.int p0, .int 0, .int ((k 2) - 1)]) (rest := []) B hK hN hP hD hS hA (c_X7_isIn l D cI cJ  p0 0 ((k 2) - 1) (ms cI q o T t ++ (mo cI o (q 0) (u 0) M k ++ (ms cI u o V v ++ rs))) _ rfl) (va_cwS 3 hts gX7_isWish_X7_isIn rfl rfl rfl (by decide +kernel) ⟨(Nat.le_of_ble_eq_true rfl), (Nat.le_of_ble_eq_true rfl)⟩) rfl hl.1 rfl (Nat.le_of_ble_eq_true rfl) dX7_isWish_8 ⟨(Nat.le_of_ble_eq_true rfl), (Nat.le_of_ble_eq_true rfl)⟩ rfl (fun H locs hP hD hS => ?_)
  exact eZ hx hb hr (nb_X7_isIn _ _ _) hlk hP hS dX7_isWish_11 (Nat.le_of_ble_eq_true rfl) (Nat.le_of_ble_eq_true rfl) h rfl
theorem nb_X7_isWish (k : Nat → Int32) (p0 : Int32) : nbo (fX7_isWish k p0) := by
  unfold fX7_isWish
  (repeat' split) <;> first | exact nar0 | exact nar1 | exact nb_X7_isIn _ _ _
noncomputable def fX7_addLand (M : Nat → Nat → Int32) (k : Nat → Int32) (p0 : Int32) (p1 : Int32) : Option (Int32 × (Nat → Nat → Int32) × (Nat → Int32)) := lt_ (uS k 0 0) (fun k_1 => if (fX7_isIn p0 1 50) = 0 then (b2 (fX7_no k_1 1) (fun r_3 k_4 => some (r_3, M, k_4))) else (if (fX7_isIn p1 1 9) = 0 then (b2 (fX7_no k_1 1) (fun r_16 k_17 => some (r_16, M, k_17))) else (if (k_1 1) = 6 then (b2 (fX7_no k_1 2) (fun r_13 k_14 => some (r_13, M, k_14))) else (gd (vp_in (k_1 1) 6) (lt_ (uG M 0 (upd (M 0) (Int32.toNatClampNeg (k_1 1)) p0)) (fun M_9 => gd (vp_in (k_1 1) 6) (lt_ (uG M_9 1 (upd (M_9 1) (Int32.toNatClampNeg (k_1 1)) p1)) (fun M_11 => lt_ (uS k_1 1 ((k_1 1) + 1)) (fun k_12 => some ((k_12 1) - 1, M_11, k_12))))))))))
set_option maxHeartbeats 4000000 in
set_option maxRecDepth 100000 in
theorem c_X7_addLand (l : Launch) (D : va_G) (cI cJ : ClassId) (q u o : Nat → Nat) (T : Nat → Nat → Int32) (t : Nat → Int32) (M : Nat → Nat → Int32) (k : Nat → Int32) (V : Nat → Nat → Int32) (v : Nat → Int32) (p0 : Int32) (p1 : Int32) (r' : Int32) (M' : Nat → Nat → Int32) (k' : Nat → Int32) (rs : va_W) (h : fX7_addLand M k p0 p1 = some (r', M', k')) : Ci l yX7_addLand wsX7_addLand ({ frames := 1, cells := 0, slots := 0, locals := 22 } : Room) D cI cJ ([.ref (o 0), .int p0, .int p1] : List Value) (ms cI q o T t ++ (mo cI o (q 0) (u 0) M k ++ (ms cI u o V v ++ rs))) r' (ms cI q o T t ++ (mo cI o (q 0) (u 0) M' k' ++ (ms cI u o V v ++ rs))) := by
  refine Ci.mk (cc := cX7_addLand) (maxL := 3) (ret := (some .int)) (by decide) rfl (Nat.le_of_ble_eq_true rfl) ?_
  intro p e s m below meth c A ls B hr hlk hK hN hA hP hD hl
  obtain ⟨hx, hb, hml, hown, hts⟩ := id B
  have hi_X7 : ∀ w ∈ wsX70, w ∈ wsX7_addLand := fun _ h => List.mem_cons_of_mem _ (List.mem_append_left _ (List.mem_append_right _ (h)))
  have hS : va_S A s.heap s.heap [] := va_S.rf
  have hl : lv_has ls 3 [(0, .ref (o 0)), (1, .int p0), (2, .int p1)] := hl
  unfold fX7_addLand at h
  refine lv_aload_n hx hb dX7_addLand_0 rfl (lv_at hl 0 rfl) ?_
  refine lv_iconst (v := 0) hx hb dX7_addLand_1 (by decide) ?_
  refine va_put (D := D) (ci := 10) (v := .int 0) (ty := .int) (C := RX7) (T := TX7) (N := 15) hx hb hts hi_X7 tyX7 tyX7_ok nmX7 hown hK hP hD hS 5 rfl rfl 0 (by decide) (hts (.fieldLink RX7 46 "WishWellModel" "thrown" "I") (List.mem_of_getElem? (i := 1) rfl)) (fun _ h9 => h9) rfl (by decide +kernel) rfl rfl (Nat.le_of_ble_eq_true rfl) dX7_addLand_2 (fun H locs hP hD hS => ?_)
  obtain ⟨k_1, ek_1, h⟩ := lt_I h
  have hP : va_P D vwCl (ms cI q o T t ++ (mo cI o (q 0) (u 0) M k_1 ++ (ms cI u o V v ++ rs))) H := by rw [ek_1]; exact hP
  have hD : va_D A (ms cI q o T t ++ (mo cI o (q 0) (u 0) M k_1 ++ (ms cI u o V v ++ rs))) := by rw [ek_1]; exact hD
  refine lv_iload_n hx hb dX7_addLand_5 rfl (lv_at hl 1 rfl) ?_
  refine lv_iconst (v := 1) hx hb dX7_addLand_6 (by decide) ?_
  refine lv_bipush (v := 50) hx hb dX7_addLand_7 (by decide) ?_
  refine kSi (As := [.int p0, .int 1, .int 50]) (rest := []) B hK hN hP hD hS hA (c_X7_isIn l D cI cJ  p0 1 50 (ms cI q o T t ++ (mo cI o (q 0) (u 0) M k_1 ++ (ms cI u o V v ++ rs))) _ rfl) (va_cwS 3 hts gX7_addLand_X7_isIn rfl rfl rfl (by decide +kernel) ⟨(Nat.le_of_ble_eq_true rfl), (Nat.le_of_ble_eq_true rfl)⟩) rfl hl.1 rfl (Nat.le_of_ble_eq_true rfl) dX7_addLand_9 ⟨(Nat.le_of_ble_eq_true rfl), (Nat.le_of_ble_eq_true rfl)⟩ rfl (fun H locs hP hD hS => ?_)
  refine lv_if_eq (tgt := 25) hx hb dX7_addLand_12 (by decide) (fun c_2 => ?_) (fun c_2 => ?_)
  · have h := ip_ h c_2
    refine lv_aload_n hx hb dX7_addLand_25 rfl (lv_at hl 0 rfl) ?_
    refine lv_iconst (v := 1) hx hb dX7_addLand_26 (by decide) ?_
    obtain ⟨r_3, k_4, hx_5, h⟩ := b2_I h
    refine kVi (As := [.int 1]) (rest := []) B hK hN hP hD hS hA (c_X7_no l D cI cJ q u o T t M k_1 V v 1 r_3 k_4 rs hx_5) (cwV 1 hts gX7_addLand_X7_no rfl rfl rfl (by decide +kernel) ⟨(Nat.le_of_ble_eq_true rfl), (Nat.le_of_ble_eq_true rfl)⟩) 10 5 rfl rfl rfl hl.1 rfl (Nat.le_of_ble_eq_true rfl) dX7_addLand_27 ⟨(Nat.le_of_ble_eq_true rfl), (Nat.le_of_ble_eq_true rfl)⟩ rfl (fun H locs hP hD hS => ?_)
    obtain ⟨h0, h1, h2⟩ := o3 h
    exact eI hx hb hr hlk hP hS dX7_addLand_30 (Nat.le_of_ble_eq_true rfl) (Nat.le_of_ble_eq_true rfl) h0 (by rw [h1, h2])
  · have h := in_ h c_2
    refine lv_iload_n hx hb dX7_addLand_15 rfl (lv_at hl 2 rfl) ?_
    refine lv_iconst (v := 1) hx hb dX7_addLand_16 (by decide) ?_
    refine lv_bipush (v := 9) hx hb dX7_addLand_17 (by decide) ?_
    refine kSi (As := [.int p1, .int 1, .int 9]) (rest := []) B hK hN hP hD hS hA (c_X7_isIn l D cI cJ  p1 1 9 (ms cI q o T t ++ (mo cI o (q 0) (u 0) M k_1 ++ (ms cI u o V v ++ rs))) _ rfl) (va_cwS 3 hts gX7_addLand_X7_isIn rfl rfl rfl (by decide +kernel) ⟨(Nat.le_of_ble_eq_true rfl), (Nat.le_of_ble_eq_true rfl)⟩) rfl hl.1 rfl (Nat.le_of_ble_eq_true rfl) dX7_addLand_19 ⟨(Nat.le_of_ble_eq_true rfl), (Nat.le_of_ble_eq_true rfl)⟩ rfl (fun H locs hP hD hS => ?_)
    refine lv_if_ne (tgt := 31) hx hb dX7_addLand_22 (by decide) (fun c_6 => ?_) (fun c_6 => ?_)
    · have h := in_ h c_6
      refine lv_aload_n hx hb dX7_addLand_31 rfl (lv_at hl 0 rfl) ?_
      refine va_get (ci := 10) (v := .int (k_1 1)) (C := RX7) (T := TX7) (N := 15) hx hb hts hi_X7 hown hK hP 5 rfl rfl 1 (by decide) (hts (.fieldLink RX7 50 "WishWellModel" "lands" "I") (List.mem_of_getElem? (i := 2) rfl)) (fun _ h9 => h9) rfl dX7_addLand_32 ?_
      refine lv_bipush (v := 6) hx hb dX7_addLand_35 (by decide) ?_
      refine lv_icmp_ne (tgt := 46) hx hb dX7_addLand_37 (by decide) (fun c_7 => ?_) (fun c_7 => ?_)
      · have h := in_ h c_7
        refine lv_aload_n hx hb dX7_addLand_46 rfl (lv_at hl 0 rfl) ?_
        refine va_get (ci := 10) (v := .ref (o 1)) (C := RX7) (T := TX7) (N := 15) hx hb hts hi_X7 hown hK hP 5 rfl rfl 2 (by decide) (hts (.fieldLink RX7 9 "WishWellModel" "value" "[I") (List.mem_of_getElem? (i := 3) rfl)) (fun _ h9 => h9) rfl dX7_addLand_47 ?_
        refine lv_aload_n hx hb dX7_addLand_50 rfl (lv_at hl 0 rfl) ?_
        refine va_get (ci := 10) (v := .int (k_1 1)) (C := RX7) (T := TX7) (N := 15) hx hb hts hi_X7 hown hK hP 5 rfl rfl 1 (by decide) (hts (.fieldLink RX7 50 "WishWellModel" "lands" "I") (List.mem_of_getElem? (i := 2) rfl)) (fun _ h9 => h9) rfl dX7_addLand_51 ?_
        refine lv_iload_n hx hb dX7_addLand_54 rfl (lv_at hl 1 rfl) ?_
        obtain ⟨c_8, h⟩ := gd_I h
        refine va_iast hx hb hK hP hD hS 6 0 rfl rfl c_8 dX7_addLand_55 (fun H locs hP hD hS => ?_)
        obtain ⟨M_9, eM_9, h⟩ := lt_I h
        have hP : va_P D vwCl (ms cI q o T t ++ (mo cI o (q 0) (u 0) M_9 k_1 ++ (ms cI u o V v ++ rs))) H := by rw [eM_9]; exact hP
        have hD : va_D A (ms cI q o T t ++ (mo cI o (q 0) (u 0) M_9 k_1 ++ (ms cI u o V v ++ rs))) := by rw [eM_9]; exact hD
        refine lv_aload_n hx hb dX7_addLand_56 rfl (lv_at hl 0 rfl) ?_
        refine va_get (ci := 10) (v := .ref (o 2)) (C := RX7) (T := TX7) (N := 15) hx hb hts hi_X7 hown hK hP 5 rfl rfl 3 (by decide) (hts (.fieldLink RX7 13 "WishWellModel" "weight" "[I") (List.mem_of_getElem? (i := 4) rfl)) (fun _ h9 => h9) rfl dX7_addLand_57 ?_
        refine lv_aload_n hx hb dX7_addLand_60 rfl (lv_at hl 0 rfl) ?_
        refine va_get (ci := 10) (v := .int (k_1 1)) (C := RX7) (T := TX7) (N := 15) hx hb hts hi_X7 hown hK hP 5 rfl rfl 1 (by decide) (hts (.fieldLink RX7 50 "WishWellModel" "lands" "I") (List.mem_of_getElem? (i := 2) rfl)) (fun _ h9 => h9) rfl dX7_addLand_61 ?_
        refine lv_iload_n hx hb dX7_addLand_64 rfl (lv_at hl 2 rfl) ?_
        obtain ⟨c_10, h⟩ := gd_I h
        refine va_iast hx hb hK hP hD hS 7 0 rfl rfl c_10 dX7_addLand_65 (fun H locs hP hD hS => ?_)
        obtain ⟨M_11, eM_11, h⟩ := lt_I h
        have hP : va_P D vwCl (ms cI q o T t ++ (mo cI o (q 0) (u 0) M_11 k_1 ++ (ms cI u o V v ++ rs))) H := by rw [eM_11]; exact hP
        have hD : va_D A (ms cI q o T t ++ (mo cI o (q 0) (u 0) M_11 k_1 ++ (ms cI u o V v ++ rs))) := by rw [eM_11]; exact hD
        refine lv_aload_n hx hb dX7_addLand_66 rfl (lv_at hl 0 rfl) ?_
        refine lv_dup hx hb dX7_addLand_67 rfl ?_
        refine va_get (ci := 10) (v := .int (k_1 1)) (C := RX7) (T := TX7) (N := 15) hx hb hts hi_X7 hown hK hP 5 rfl rfl 1 (by decide) (hts (.fieldLink RX7 50 "WishWellModel" "lands" "I") (List.mem_of_getElem? (i := 2) rfl)) (fun _ h9 => h9) rfl dX7_addLand_68 ?_
        refine lv_iconst (v := 1) hx hb dX7_addLand_71 (by decide) ?_
        refine lv_iadd hx hb dX7_addLand_72 ?_
        refine va_put (D := D) (ci := 10) (v := .int ((k_1 1) + 1)) (ty := .int) (C := RX7) (T := TX7) (N := 15) hx hb hts hi_X7 tyX7 tyX7_ok nmX7 hown hK hP hD hS 5 rfl rfl 1 (by decide) (hts (.fieldLink RX7 50 "WishWellModel" "lands" "I") (List.mem_of_getElem? (i := 2) rfl)) (fun _ h9 => h9) rfl (by decide +kernel) rfl rfl (Nat.le_of_ble_eq_true rfl) dX7_addLand_73 (fun H locs hP hD hS => ?_)
        obtain ⟨k_12, ek_12, h⟩ := lt_I h
        have hP : va_P D vwCl (ms cI q o T t ++ (mo cI o (q 0) (u 0) M_11 k_12 ++ (ms cI u o V v ++ rs))) H := by rw [ek_12]; exact hP
        have hD : va_D A (ms cI q o T t ++ (mo cI o (q 0) (u 0) M_11 k_12 ++ (ms cI u o V v ++ rs))) := by rw [ek_12]; exact hD
        refine lv_aload_n hx hb dX7_addLand_76 rfl (lv_at hl 0 rfl) ?_
        refine va_get (ci := 10) (v := .int (k_12 1)) (C := RX7) (T := TX7) (N := 15) hx hb hts hi_X7 hown hK hP 5 rfl rfl 1 (by decide) (hts (.fieldLink RX7 50 "WishWellModel" "lands" "I") (List.mem_of_getElem? (i := 2) rfl)) (fun _ h9 => h9) rfl dX7_addLand_77 ?_
        refine lv_iconst (v := 1) hx hb dX7_addLand_80 (by decide) ?_
        refine lv_isub hx hb dX7_addLand_81 ?_
        obtain ⟨h0, h1, h2⟩ := o3 h
        exact eI hx hb hr hlk hP hS dX7_addLand_82 (Nat.le_of_ble_eq_true rfl) (Nat.le_of_ble_eq_true rfl) h0 (by rw [h1, h2])
      · have h := ip_ h c_7
        refine lv_aload_n hx hb dX7_addLand_40 rfl (lv_at hl 0 rfl) ?_
        refine lv_iconst (v := 2) hx hb dX7_addLand_41 (by decide) ?_
        obtain ⟨r_13, k_14, hx_15, h⟩ := b2_I h
        refine kVi (As := [.int 2]) (rest := []) B hK hN hP hD hS hA (c_X7_no l D cI cJ q u o T t M k_1 V v 2 r_13 k_14 rs hx_15) (cwV 1 hts gX7_addLand_X7_no rfl rfl rfl (by decide +kernel) ⟨(Nat.le_of_ble_eq_true rfl), (Nat.le_of_ble_eq_true rfl)⟩) 10 5 rfl rfl rfl hl.1 rfl (Nat.le_of_ble_eq_true rfl) dX7_addLand_42 ⟨(Nat.le_of_ble_eq_true rfl), (Nat.le_of_ble_eq_true rfl)⟩ rfl (fun H locs hP hD hS => ?_)
        obtain ⟨h0, h1, h2⟩ := o3 h
        exact eI hx hb hr hlk hP hS dX7_addLand_45 (Nat.le_of_ble_eq_true rfl) (Nat.le_of_ble_eq_true rfl) h0 (by rw [h1, h2])
    · have h := ip_ h c_6
      refine lv_aload_n hx hb dX7_addLand_25 rfl (lv_at hl 0 rfl) ?_
      refine lv_iconst (v := 1) hx hb dX7_addLand_26 (by decide) ?_
      obtain ⟨r_16, k_17, hx_18, h⟩ := b2_I h
      refine kVi (As := [.int 1]) (rest := []) B hK hN hP hD hS hA (c_X7_no l D cI cJ q u o T t M k_1 V v 1 r_16 k_17 rs hx_18) (cwV 1 hts gX7_addLand_X7_no rfl rfl rfl (by decide +kernel) ⟨(Nat.le_of_ble_eq_true rfl), (Nat.le_of_ble_eq_true rfl)⟩) 10 5 rfl rfl rfl hl.1 rfl (Nat.le_of_ble_eq_true rfl) dX7_addLand_27 ⟨(Nat.le_of_ble_eq_true rfl), (Nat.le_of_ble_eq_true rfl)⟩ rfl (fun H locs hP hD hS => ?_)
      obtain ⟨h0, h1, h2⟩ := o3 h
      exact eI hx hb hr hlk hP hS dX7_addLand_30 (Nat.le_of_ble_eq_true rfl) (Nat.le_of_ble_eq_true rfl) h0 (by rw [h1, h2])
noncomputable def fX7_setTide (M : Nat → Nat → Int32) (k : Nat → Int32) (p0 : Int32) (p1 : Int32) : Option (Int32 × (Nat → Nat → Int32) × (Nat → Int32)) := lt_ (uS k 0 0) (fun k_1 => if (fX7_isIn p0 0 6) = 0 then (b2 (fX7_no k_1 1) (fun r_11 k_12 => some (r_11, M, k_12))) else (if (fX7_isIn p1 0 9) = 0 then (b2 (fX7_no k_1 2) (fun r_8 k_9 => some (r_8, M, k_9))) else (gd (vp_in p0 7) (lt_ (M 2 (Int32.toNatClampNeg p0)) (fun y3_5 => gd (vp_in p0 7) (lt_ (uG M 2 (upd (M 2) (Int32.toNatClampNeg p0) p1)) (fun M_7 => some (y3_5, M_7, k_1))))))))
set_option maxHeartbeats 4000000 in
set_option maxRecDepth 100000 in
theorem c_X7_setTide (l : Launch) (D : va_G) (cI cJ : ClassId) (q u o : Nat → Nat) (T : Nat → Nat → Int32) (t : Nat → Int32) (M : Nat → Nat → Int32) (k : Nat → Int32) (V : Nat → Nat → Int32) (v : Nat → Int32) (p0 : Int32) (p1 : Int32) (r' : Int32) (M' : Nat → Nat → Int32) (k' : Nat → Int32) (rs : va_W) (h : fX7_setTide M k p0 p1 = some (r', M', k')) : Ci l yX7_setTide wsX7_setTide ({ frames := 1, cells := 0, slots := 0, locals := 22 } : Room) D cI cJ ([.ref (o 0), .int p0, .int p1] : List Value) (ms cI q o T t ++ (mo cI o (q 0) (u 0) M k ++ (ms cI u o V v ++ rs))) r' (ms cI q o T t ++ (mo cI o (q 0) (u 0) M' k' ++ (ms cI u o V v ++ rs))) := by
  refine Ci.mk (cc := cX7_setTide) (maxL := 4) (ret := (some .int)) (by decide) rfl (Nat.le_of_ble_eq_true rfl) ?_
  intro p e s m below meth c A ls B hr hlk hK hN hA hP hD hl
  obtain ⟨hx, hb, hml, hown, hts⟩ := id B
  have hi_X7 : ∀ w ∈ wsX70, w ∈ wsX7_setTide := fun _ h => List.mem_cons_of_mem _ (List.mem_append_left _ (List.mem_append_right _ (h)))
  have hS : va_S A s.heap s.heap [] := va_S.rf
  have hl : lv_has ls 4 [(0, .ref (o 0)), (1, .int p0), (2, .int p1)] := hl
  unfold fX7_setTide at h
  refine lv_aload_n hx hb dX7_setTide_0 rfl (lv_at hl 0 rfl) ?_
  refine lv_iconst (v := 0) hx hb dX7_setTide_1 (by decide) ?_
  refine va_put (D := D) (ci := 10) (v := .int 0) (ty := .int) (C := RX7) (T := TX7) (N := 15) hx hb hts hi_X7 tyX7 tyX7_ok nmX7 hown hK hP hD hS 5 rfl rfl 0 (by decide) (hts (.fieldLink RX7 46 "WishWellModel" "thrown" "I") (List.mem_of_getElem? (i := 1) rfl)) (fun _ h9 => h9) rfl (by decide +kernel) rfl rfl (Nat.le_of_ble_eq_true rfl) dX7_setTide_2 (fun H locs hP hD hS => ?_)
  obtain ⟨k_1, ek_1, h⟩ := lt_I h
  have hP : va_P D vwCl (ms cI q o T t ++ (mo cI o (q 0) (u 0) M k_1 ++ (ms cI u o V v ++ rs))) H := by rw [ek_1]; exact hP
  have hD : va_D A (ms cI q o T t ++ (mo cI o (q 0) (u 0) M k_1 ++ (ms cI u o V v ++ rs))) := by rw [ek_1]; exact hD
  refine lv_iload_n hx hb dX7_setTide_5 rfl (lv_at hl 1 rfl) ?_
  refine lv_iconst (v := 0) hx hb dX7_setTide_6 (by decide) ?_
  refine lv_bipush (v := 6) hx hb dX7_setTide_7 (by decide) ?_
  refine kSi (As := [.int p0, .int 0, .int 6]) (rest := []) B hK hN hP hD hS hA (c_X7_isIn l D cI cJ  p0 0 6 (ms cI q o T t ++ (mo cI o (q 0) (u 0) M k_1 ++ (ms cI u o V v ++ rs))) _ rfl) (va_cwS 3 hts gX7_setTide_X7_isIn rfl rfl rfl (by decide +kernel) ⟨(Nat.le_of_ble_eq_true rfl), (Nat.le_of_ble_eq_true rfl)⟩) rfl hl.1 rfl (Nat.le_of_ble_eq_true rfl) dX7_setTide_9 ⟨(Nat.le_of_ble_eq_true rfl), (Nat.le_of_ble_eq_true rfl)⟩ rfl (fun H locs hP hD hS => ?_)
  refine lv_if_ne (tgt := 21) hx hb dX7_setTide_12 (by decide) (fun c_2 => ?_) (fun c_2 => ?_)
  · have h := in_ h c_2
    refine lv_iload_n hx hb dX7_setTide_21 rfl (lv_at hl 2 rfl) ?_
    refine lv_iconst (v := 0) hx hb dX7_setTide_22 (by decide) ?_
    refine lv_bipush (v := 9) hx hb dX7_setTide_23 (by decide) ?_
    refine kSi (As := [.int p1, .int 0, .int 9]) (rest := []) B hK hN hP hD hS hA (c_X7_isIn l D cI cJ  p1 0 9 (ms cI q o T t ++ (mo cI o (q 0) (u 0) M k_1 ++ (ms cI u o V v ++ rs))) _ rfl) (va_cwS 3 hts gX7_setTide_X7_isIn rfl rfl rfl (by decide +kernel) ⟨(Nat.le_of_ble_eq_true rfl), (Nat.le_of_ble_eq_true rfl)⟩) rfl hl.1 rfl (Nat.le_of_ble_eq_true rfl) dX7_setTide_25 ⟨(Nat.le_of_ble_eq_true rfl), (Nat.le_of_ble_eq_true rfl)⟩ rfl (fun H locs hP hD hS => ?_)
    refine lv_if_ne (tgt := 37) hx hb dX7_setTide_28 (by decide) (fun c_3 => ?_) (fun c_3 => ?_)
    · have h := in_ h c_3
      refine lv_aload_n hx hb dX7_setTide_37 rfl (lv_at hl 0 rfl) ?_
      refine va_get (ci := 10) (v := .ref (o 3)) (C := RX7) (T := TX7) (N := 15) hx hb hts hi_X7 hown hK hP 5 rfl rfl 4 (by decide) (hts (.fieldLink RX7 16 "WishWellModel" "tide" "[I") (List.mem_of_getElem? (i := 2) rfl)) (fun _ h9 => h9) rfl dX7_setTide_38 ?_
      refine lv_iload_n hx hb dX7_setTide_41 rfl (lv_at hl 1 rfl) ?_
      obtain ⟨c_4, h⟩ := gd_I h
      refine va_iald hx hb hK hP 8 0 rfl rfl c_4 dX7_setTide_42 ?_
      obtain ⟨y3_5, ey3_5, h⟩ := lt_I h
      rw [← ey3_5]
      refine lv_istore_n (lv' := [(3, .int y3_5), (0, .ref (o 0)), (1, .int p0), (2, .int p1)]) hx hb dX7_setTide_43 rfl hl (by decide) rfl (fun ls hl => ?_)
      refine lv_aload_n hx hb dX7_setTide_44 rfl (lv_at hl 1 rfl) ?_
      refine va_get (ci := 10) (v := .ref (o 3)) (C := RX7) (T := TX7) (N := 15) hx hb hts hi_X7 hown hK hP 5 rfl rfl 4 (by decide) (hts (.fieldLink RX7 16 "WishWellModel" "tide" "[I") (List.mem_of_getElem? (i := 2) rfl)) (fun _ h9 => h9) rfl dX7_setTide_45 ?_
      refine lv_iload_n hx hb dX7_setTide_48 rfl (lv_at hl 2 rfl) ?_
      refine lv_iload_n hx hb dX7_setTide_49 rfl (lv_at hl 3 rfl) ?_
      obtain ⟨c_6, h⟩ := gd_I h
      refine va_iast hx hb hK hP hD hS 8 0 rfl rfl c_6 dX7_setTide_50 (fun H locs hP hD hS => ?_)
      obtain ⟨M_7, eM_7, h⟩ := lt_I h
      have hP : va_P D vwCl (ms cI q o T t ++ (mo cI o (q 0) (u 0) M_7 k_1 ++ (ms cI u o V v ++ rs))) H := by rw [eM_7]; exact hP
      have hD : va_D A (ms cI q o T t ++ (mo cI o (q 0) (u 0) M_7 k_1 ++ (ms cI u o V v ++ rs))) := by rw [eM_7]; exact hD
      refine lv_iload_n hx hb dX7_setTide_51 rfl (lv_at hl 0 rfl) ?_
      obtain ⟨h0, h1, h2⟩ := o3 h
      exact eI hx hb hr hlk hP hS dX7_setTide_52 (Nat.le_of_ble_eq_true rfl) (Nat.le_of_ble_eq_true rfl) h0 (by rw [h1, h2])
    · have h := ip_ h c_3
      refine lv_aload_n hx hb dX7_setTide_31 rfl (lv_at hl 0 rfl) ?_
      refine lv_iconst (v := 2) hx hb dX7_setTide_32 (by decide) ?_
      obtain ⟨r_8, k_9, hx_10, h⟩ := b2_I h
      refine kVi (As := [.int 2]) (rest := []) B hK hN hP hD hS hA (c_X7_no l D cI cJ q u o T t M k_1 V v 2 r_8 k_9 rs hx_10) (cwV 1 hts gX7_setTide_X7_no rfl rfl rfl (by decide +kernel) ⟨(Nat.le_of_ble_eq_true rfl), (Nat.le_of_ble_eq_true rfl)⟩) 10 5 rfl rfl rfl hl.1 rfl (Nat.le_of_ble_eq_true rfl) dX7_setTide_33 ⟨(Nat.le_of_ble_eq_true rfl), (Nat.le_of_ble_eq_true rfl)⟩ rfl (fun H locs hP hD hS => ?_)
      obtain ⟨h0, h1, h2⟩ := o3 h
      exact eI hx hb hr hlk hP hS dX7_setTide_36 (Nat.le_of_ble_eq_true rfl) (Nat.le_of_ble_eq_true rfl) h0 (by rw [h1, h2])
  · have h := ip_ h c_2
    refine lv_aload_n hx hb dX7_setTide_15 rfl (lv_at hl 0 rfl) ?_
    refine lv_iconst (v := 1) hx hb dX7_setTide_16 (by decide) ?_
    obtain ⟨r_11, k_12, hx_13, h⟩ := b2_I h
    refine kVi (As := [.int 1]) (rest := []) B hK hN hP hD hS hA (c_X7_no l D cI cJ q u o T t M k_1 V v 1 r_11 k_12 rs hx_13) (cwV 1 hts gX7_setTide_X7_no rfl rfl rfl (by decide +kernel) ⟨(Nat.le_of_ble_eq_true rfl), (Nat.le_of_ble_eq_true rfl)⟩) 10 5 rfl rfl rfl hl.1 rfl (Nat.le_of_ble_eq_true rfl) dX7_setTide_17 ⟨(Nat.le_of_ble_eq_true rfl), (Nat.le_of_ble_eq_true rfl)⟩ rfl (fun H locs hP hD hS => ?_)
    obtain ⟨h0, h1, h2⟩ := o3 h
    exact eI hx hb hr hlk hP hS dX7_setTide_20 (Nat.le_of_ble_eq_true rfl) (Nat.le_of_ble_eq_true rfl) h0 (by rw [h1, h2])
noncomputable def fX7_wish (T : Nat → Nat → Int32) (t : Nat → Int32) (M : Nat → Nat → Int32) (k : Nat → Int32) (p0 : Int32) (p1 : Int32) : Option (Int32 × (Nat → Nat → Int32) × (Nat → Int32) × (Nat → Nat → Int32) × (Nat → Int32)) := lt_ (uS k 0 0) (fun k_1 => if (fX7_isLand k_1 p0) = 0 then (b2 (fX7_no k_1 1) (fun r_23 k_24 => some (r_23, T, t, M, k_24))) else (if (fX7_isIn p1 0 3) = 0 then (b2 (fX7_no k_1 2) (fun r_20 k_21 => some (r_20, T, t, M, k_21))) else (if (k_1 2) = 24 then (b2 (fX7_no k_1 3) (fun r_17 k_18 => some (r_17, T, t, M, k_18))) else (gd (vp_in (k_1 2) 24) (lt_ (uG M 5 (upd (M 5) (Int32.toNatClampNeg (k_1 2)) p1)) (fun M_6 => gd (vp_in (k_1 2) 24) (lt_ (uG M_6 6 (upd (M_6 6) (Int32.toNatClampNeg (k_1 2)) p0)) (fun M_8 => gd (vp_in (k_1 2) 24) (lt_ (uG M_8 7 (upd (M_8 7) (Int32.toNatClampNeg (k_1 2)) (t 0))) (fun M_10 => gd (vp_in (k_1 2) 24) (lt_ (uG T 3 (upd (T 3) (Int32.toNatClampNeg (k_1 2)) (-1))) (fun T_12 => b2 (fX6_drop T_12 t M_10 p0) (fun T_13 t_14 => lt_ (uS k_1 2 ((k_1 2) + 1)) (fun k_16 => some ((k_16 2) - 1, T_13, t_14, M_10, k_16)))))))))))))))
set_option maxHeartbeats 4000000 in
set_option maxRecDepth 100000 in
theorem c_X7_wish (l : Launch) (D : va_G) (cI cJ : ClassId) (q u o : Nat → Nat) (T : Nat → Nat → Int32) (t : Nat → Int32) (M : Nat → Nat → Int32) (k : Nat → Int32) (V : Nat → Nat → Int32) (v : Nat → Int32) (p0 : Int32) (p1 : Int32) (r' : Int32) (T' : Nat → Nat → Int32) (t' : Nat → Int32) (M' : Nat → Nat → Int32) (k' : Nat → Int32) (rs : va_W) (h : fX7_wish T t M k p0 p1 = some (r', T', t', M', k')) : Ci l yX7_wish wsX7_wish ({ frames := 2, cells := 0, slots := 0, locals := 43 } : Room) D cI cJ ([.ref (o 0), .int p0, .int p1] : List Value) (ms cI q o T t ++ (mo cI o (q 0) (u 0) M k ++ (ms cI u o V v ++ rs))) r' (ms cI q o T' t' ++ (mo cI o (q 0) (u 0) M' k' ++ (ms cI u o V v ++ rs))) := by
  refine Ci.mk (cc := cX7_wish) (maxL := 3) (ret := (some .int)) (by decide) rfl (Nat.le_of_ble_eq_true rfl) ?_
  intro p e s m below meth c A ls B hr hlk hK hN hA hP hD hl
  obtain ⟨hx, hb, hml, hown, hts⟩ := id B
  have hi_X6 : ∀ w ∈ wsX60, w ∈ wsX7_wish := fun _ h => List.mem_cons_of_mem _ (List.mem_append_left _ (List.mem_append_right _ (h)))
  have hi_X7 : ∀ w ∈ wsX70, w ∈ wsX7_wish := fun _ h => List.mem_cons_of_mem _ (List.mem_append_left _ (List.mem_append_left _ (List.mem_append_right _ (h))))
  have hS : va_S A s.heap s.heap [] := va_S.rf
  have hl : lv_has ls 3 [(0, .ref (o 0)), (1, .int p0), (2, .int p1)] := hl
  unfold fX7_wish at h
  refine lv_aload_n hx hb dX7_wish_0 rfl (lv_at hl 0 rfl) ?_
  refine lv_iconst (v := 0) hx hb dX7_wish_1 (by decide) ?_
  refine va_put (D := D) (ci := 10) (v := .int 0) (ty := .int) (C := RX7) (T := TX7) (N := 15) hx hb hts hi_X7 tyX7 tyX7_ok nmX7 hown hK hP hD hS 5 rfl rfl 0 (by decide) (hts (.fieldLink RX7 46 "WishWellModel" "thrown" "I") (List.mem_of_getElem? (i := 1) rfl)) (fun _ h9 => h9) rfl (by decide +kernel) rfl rfl (Nat.le_of_ble_eq_true rfl) dX7_wish_2 (fun H locs hP hD hS => ?_)
  obtain ⟨k_1, ek_1, h⟩ := lt_I h
  have hP : va_P D vwCl (ms cI q o T t ++ (mo cI o (q 0) (u 0) M k_1 ++ (ms cI u o V v ++ rs))) H := by rw [ek_1]; exact hP
  have hD : va_D A (ms cI q o T t ++ (mo cI o (q 0) (u 0) M k_1 ++ (ms cI u o V v ++ rs))) := by rw [ek_1]; exact hD
  refine lv_aload_n hx hb dX7_wish_5 rfl (lv_at hl 0 rfl) ?_
  refine lv_iload_n hx hb dX7_wish_6 rfl (lv_at hl 1 rfl) ?_
  refine kVi (As := [.int p0]) (rest := []) B hK hN hP hD hS hA (c_X7_isLand l D cI cJ q u o T t M k_1 V v p0 rs _ rfl) (cwV 1 hts gX7_wish_X7_isLand rfl rfl rfl (by decide +kernel) ⟨(Nat.le_of_ble_eq_true rfl), (Nat.le_of_ble_eq_true rfl)⟩) 10 5 rfl rfl rfl hl.1 rfl (Nat.le_of_ble_eq_true rfl) dX7_wish_7 ⟨(Nat.le_of_ble_eq_true rfl), (Nat.le_of_ble_eq_true rfl)⟩ rfl (fun H locs hP hD hS => ?_)
  refine lv_if_ne (tgt := 19) hx hb dX7_wish_10 (by decide) (fun c_2 => ?_) (fun c_2 => ?_)
  · have h := in_ h c_2
    refine lv_iload_n hx hb dX7_wish_19 rfl (lv_at hl 2 rfl) ?_
    refine lv_iconst (v := 0) hx hb dX7_wish_20 (by decide) ?_
    refine lv_iconst (v := 3) hx hb dX7_wish_21 (by decide) ?_
    refine kSi (As := [.int p1, .int 0, .int 3]) (rest := []) B hK hN hP hD hS hA (c_X7_isIn l D cI cJ  p1 0 3 (ms cI q o T t ++ (mo cI o (q 0) (u 0) M k_1 ++ (ms cI u o V v ++ rs))) _ rfl) (va_cwS 3 hts gX7_wish_X7_isIn rfl rfl rfl (by decide +kernel) ⟨(Nat.le_of_ble_eq_true rfl), (Nat.le_of_ble_eq_true rfl)⟩) rfl hl.1 rfl (Nat.le_of_ble_eq_true rfl) dX7_wish_22 ⟨(Nat.le_of_ble_eq_true rfl), (Nat.le_of_ble_eq_true rfl)⟩ rfl (fun H locs hP hD hS => ?_)
    refine lv_if_ne (tgt := 34) hx hb dX7_wish_25 (by decide) (fun c_3 => ?_) (fun c_3 => ?_)
    · have h := in_ h c_3
      refine lv_aload_n hx hb dX7_wish_34 rfl (lv_at hl 0 rfl) ?_
      refine va_get (ci := 10) (v := .int (k_1 2)) (C := RX7) (T := TX7) (N := 15) hx hb hts hi_X7 hown hK hP 5 rfl rfl 7 (by decide) (hts (.fieldLink RX7 57 "WishWellModel" "wishes" "I") (List.mem_of_getElem? (i := 2) rfl)) (fun _ h9 => h9) rfl dX7_wish_35 ?_
      refine lv_bipush (v := 24) hx hb dX7_wish_38 (by decide) ?_
      refine lv_icmp_ne (tgt := 49) hx hb dX7_wish_40 (by decide) (fun c_4 => ?_) (fun c_4 => ?_)
      · have h := in_ h c_4
        refine lv_aload_n hx hb dX7_wish_49 rfl (lv_at hl 0 rfl) ?_
        refine va_get (ci := 10) (v := .ref (o 6)) (C := RX7) (T := TX7) (N := 15) hx hb hts hi_X7 hown hK hP 5 rfl rfl 8 (by decide) (hts (.fieldLink RX7 25 "WishWellModel" "kind" "[I") (List.mem_of_getElem? (i := 3) rfl)) (fun _ h9 => h9) rfl dX7_wish_50 ?_
        refine lv_aload_n hx hb dX7_wish_53 rfl (lv_at hl 0 rfl) ?_
        refine va_get (ci := 10) (v := .int (k_1 2)) (C := RX7) (T := TX7) (N := 15) hx hb hts hi_X7 hown hK hP 5 rfl rfl 7 (by decide) (hts (.fieldLink RX7 57 "WishWellModel" "wishes" "I") (List.mem_of_getElem? (i := 2) rfl)) (fun _ h9 => h9) rfl dX7_wish_54 ?_
        refine lv_iload_n hx hb dX7_wish_57 rfl (lv_at hl 2 rfl) ?_
        obtain ⟨c_5, h⟩ := gd_I h
        refine va_iast hx hb hK hP hD hS 11 0 rfl rfl c_5 dX7_wish_58 (fun H locs hP hD hS => ?_)
        obtain ⟨M_6, eM_6, h⟩ := lt_I h
        have hP : va_P D vwCl (ms cI q o T t ++ (mo cI o (q 0) (u 0) M_6 k_1 ++ (ms cI u o V v ++ rs))) H := by rw [eM_6]; exact hP
        have hD : va_D A (ms cI q o T t ++ (mo cI o (q 0) (u 0) M_6 k_1 ++ (ms cI u o V v ++ rs))) := by rw [eM_6]; exact hD
        refine lv_aload_n hx hb dX7_wish_59 rfl (lv_at hl 0 rfl) ?_
        refine va_get (ci := 10) (v := .ref (o 7)) (C := RX7) (T := TX7) (N := 15) hx hb hts hi_X7 hown hK hP 5 rfl rfl 9 (by decide) (hts (.fieldLink RX7 28 "WishWellModel" "landOf" "[I") (List.mem_of_getElem? (i := 4) rfl)) (fun _ h9 => h9) rfl dX7_wish_60 ?_
        refine lv_aload_n hx hb dX7_wish_63 rfl (lv_at hl 0 rfl) ?_
        refine va_get (ci := 10) (v := .int (k_1 2)) (C := RX7) (T := TX7) (N := 15) hx hb hts hi_X7 hown hK hP 5 rfl rfl 7 (by decide) (hts (.fieldLink RX7 57 "WishWellModel" "wishes" "I") (List.mem_of_getElem? (i := 2) rfl)) (fun _ h9 => h9) rfl dX7_wish_64 ?_
        refine lv_iload_n hx hb dX7_wish_67 rfl (lv_at hl 1 rfl) ?_
        obtain ⟨c_7, h⟩ := gd_I h
        refine va_iast hx hb hK hP hD hS 12 0 rfl rfl c_7 dX7_wish_68 (fun H locs hP hD hS => ?_)
        obtain ⟨M_8, eM_8, h⟩ := lt_I h
        have hP : va_P D vwCl (ms cI q o T t ++ (mo cI o (q 0) (u 0) M_8 k_1 ++ (ms cI u o V v ++ rs))) H := by rw [eM_8]; exact hP
        have hD : va_D A (ms cI q o T t ++ (mo cI o (q 0) (u 0) M_8 k_1 ++ (ms cI u o V v ++ rs))) := by rw [eM_8]; exact hD
        refine lv_aload_n hx hb dX7_wish_69 rfl (lv_at hl 0 rfl) ?_
        refine va_get (ci := 10) (v := .ref (o 8)) (C := RX7) (T := TX7) (N := 15) hx hb hts hi_X7 hown hK hP 5 rfl rfl 10 (by decide) (hts (.fieldLink RX7 31 "WishWellModel" "day" "[I") (List.mem_of_getElem? (i := 5) rfl)) (fun _ h9 => h9) rfl dX7_wish_70 ?_
        refine lv_aload_n hx hb dX7_wish_73 rfl (lv_at hl 0 rfl) ?_
        refine va_get (ci := 10) (v := .int (k_1 2)) (C := RX7) (T := TX7) (N := 15) hx hb hts hi_X7 hown hK hP 5 rfl rfl 7 (by decide) (hts (.fieldLink RX7 57 "WishWellModel" "wishes" "I") (List.mem_of_getElem? (i := 2) rfl)) (fun _ h9 => h9) rfl dX7_wish_74 ?_
        refine lv_aload_n hx hb dX7_wish_77 rfl (lv_at hl 0 rfl) ?_
        refine va_get (ci := 10) (v := .ref (q 0)) (C := RX7) (T := TX7) (N := 15) hx hb hts hi_X7 hown hK hP 5 rfl rfl 13 (by decide) (hts (.fieldLink RX7 39 "WishWellModel" "s" "LWishWellModel$State;") (List.mem_of_getElem? (i := 6) rfl)) (fun _ h9 => h9) rfl dX7_wish_78 ?_
        refine va_getN (own := RX7) (ref := "WishWellModel$State") (host := "WishWellModel") (index := 68) (ci := 9) (v := .int (t 0)) (C := RX6) (T := TX6) (N := 8) hx hb hts hi_X6 hown hK hP 0 rfl rfl 0 (by decide) (nF_0 hN) (fun _ h9 => h9) rfl dX7_wish_81 ?_
        obtain ⟨c_9, h⟩ := gd_I h
        refine va_iast hx hb hK hP hD hS 13 0 rfl rfl c_9 dX7_wish_84 (fun H locs hP hD hS => ?_)
        obtain ⟨M_10, eM_10, h⟩ := lt_I h
        have hP : va_P D vwCl (ms cI q o T t ++ (mo cI o (q 0) (u 0) M_10 k_1 ++ (ms cI u o V v ++ rs))) H := by rw [eM_10]; exact hP
        have hD : va_D A (ms cI q o T t ++ (mo cI o (q 0) (u 0) M_10 k_1 ++ (ms cI u o V v ++ rs))) := by rw [eM_10]; exact hD
        refine lv_aload_n hx hb dX7_wish_85 rfl (lv_at hl 0 rfl) ?_
        refine va_get (ci := 10) (v := .ref (q 0)) (C := RX7) (T := TX7) (N := 15) hx hb hts hi_X7 hown hK hP 5 rfl rfl 13 (by decide) (hts (.fieldLink RX7 39 "WishWellModel" "s" "LWishWellModel$State;") (List.mem_of_getElem? (i := 6) rfl)) (fun _ h9 => h9) rfl dX7_wish_86 ?_
        refine va_getN (own := RX7) (ref := "WishWellModel$State") (host := "WishWellModel") (index := 71) (ci := 9) (v := .ref (q 4)) (C := RX6) (T := TX6) (N := 8) hx hb hts hi_X6 hown hK hP 0 rfl rfl 6 (by decide) (nF_6 hN) (fun _ h9 => h9) rfl dX7_wish_89 ?_
        refine lv_aload_n hx hb dX7_wish_92 rfl (lv_at hl 0 rfl) ?_
        refine va_get (ci := 10) (v := .int (k_1 2)) (C := RX7) (T := TX7) (N := 15) hx hb hts hi_X7 hown hK hP 5 rfl rfl 7 (by decide) (hts (.fieldLink RX7 57 "WishWellModel" "wishes" "I") (List.mem_of_getElem? (i := 2) rfl)) (fun _ h9 => h9) rfl dX7_wish_93 ?_
        refine lv_iconst (v := (-1)) hx hb dX7_wish_96 (by decide) ?_
        obtain ⟨c_11, h⟩ := gd_I h
        refine va_iast hx hb hK hP hD hS 4 0 rfl rfl c_11 dX7_wish_97 (fun H locs hP hD hS => ?_)
        obtain ⟨T_12, eT_12, h⟩ := lt_I h
        have hP : va_P D vwCl (ms cI q o T_12 t ++ (mo cI o (q 0) (u 0) M_10 k_1 ++ (ms cI u o V v ++ rs))) H := by rw [eT_12]; exact hP
        have hD : va_D A (ms cI q o T_12 t ++ (mo cI o (q 0) (u 0) M_10 k_1 ++ (ms cI u o V v ++ rs))) := by rw [eT_12]; exact hD
        refine lv_aload_n hx hb dX7_wish_98 rfl (lv_at hl 0 rfl) ?_
        refine va_get (ci := 10) (v := .ref (q 0)) (C := RX7) (T := TX7) (N := 15) hx hb hts hi_X7 hown hK hP 5 rfl rfl 13 (by decide) (hts (.fieldLink RX7 39 "WishWellModel" "s" "LWishWellModel$State;") (List.mem_of_getElem? (i := 6) rfl)) (fun _ h9 => h9) rfl dX7_wish_99 ?_
        refine lv_iload_n hx hb dX7_wish_102 rfl (lv_at hl 1 rfl) ?_
        obtain ⟨T_13, t_14, hx_15, h⟩ := b2_I h
        refine kVv (As := [.int p0]) (rest := []) B hK hN hP hD hS hA (c_X6_drop l D cI cJ q o (q 0) (u 0) T_12 t M_10 k_1 p0 T_13 t_14 (ms cI u o V v ++ rs) hx_15) (cwV 1 hts gX7_wish_X6_drop rfl rfl rfl (by decide +kernel) ⟨(Nat.le_of_ble_eq_true rfl), (Nat.le_of_ble_eq_true rfl)⟩) 9 0 rfl rfl rfl hl.1 rfl (Nat.le_of_ble_eq_true rfl) dX7_wish_103 ⟨(Nat.le_of_ble_eq_true rfl), (Nat.le_of_ble_eq_true rfl)⟩ rfl (fun H locs hP hD hS => ?_)
        refine lv_aload_n hx hb dX7_wish_106 rfl (lv_at hl 0 rfl) ?_
        refine lv_dup hx hb dX7_wish_107 rfl ?_
        refine va_get (ci := 10) (v := .int (k_1 2)) (C := RX7) (T := TX7) (N := 15) hx hb hts hi_X7 hown hK hP 5 rfl rfl 7 (by decide) (hts (.fieldLink RX7 57 "WishWellModel" "wishes" "I") (List.mem_of_getElem? (i := 2) rfl)) (fun _ h9 => h9) rfl dX7_wish_108 ?_
        refine lv_iconst (v := 1) hx hb dX7_wish_111 (by decide) ?_
        refine lv_iadd hx hb dX7_wish_112 ?_
        refine va_put (D := D) (ci := 10) (v := .int ((k_1 2) + 1)) (ty := .int) (C := RX7) (T := TX7) (N := 15) hx hb hts hi_X7 tyX7 tyX7_ok nmX7 hown hK hP hD hS 5 rfl rfl 7 (by decide) (hts (.fieldLink RX7 57 "WishWellModel" "wishes" "I") (List.mem_of_getElem? (i := 2) rfl)) (fun _ h9 => h9) rfl (by decide +kernel) rfl rfl (Nat.le_of_ble_eq_true rfl) dX7_wish_113 (fun H locs hP hD hS => ?_)
        obtain ⟨k_16, ek_16, h⟩ := lt_I h
        have hP : va_P D vwCl (ms cI q o T_13 t_14 ++ (mo cI o (q 0) (u 0) M_10 k_16 ++ (ms cI u o V v ++ rs))) H := by rw [ek_16]; exact hP
        have hD : va_D A (ms cI q o T_13 t_14 ++ (mo cI o (q 0) (u 0) M_10 k_16 ++ (ms cI u o V v ++ rs))) := by rw [ek_16]; exact hD
        refine lv_aload_n hx hb dX7_wish_116 rfl (lv_at hl 0 rfl) ?_
        refine va_get (ci := 10) (v := .int (k_16 2)) (C := RX7) (T := TX7) (N := 15) hx hb hts hi_X7 hown hK hP 5 rfl rfl 7 (by decide) (hts (.fieldLink RX7 57 "WishWellModel" "wishes" "I") (List.mem_of_getElem? (i := 2) rfl)) (fun _ h9 => h9) rfl dX7_wish_117 ?_
        refine lv_iconst (v := 1) hx hb dX7_wish_120 (by decide) ?_
        refine lv_isub hx hb dX7_wish_121 ?_
        obtain ⟨h0, h1, h2, h3, h4⟩ := o5 h
        exact eI hx hb hr hlk hP hS dX7_wish_122 (Nat.le_of_ble_eq_true rfl) (Nat.le_of_ble_eq_true rfl) h0 (by rw [h1, h2, h3, h4])
      · have h := ip_ h c_4
        refine lv_aload_n hx hb dX7_wish_43 rfl (lv_at hl 0 rfl) ?_
        refine lv_iconst (v := 3) hx hb dX7_wish_44 (by decide) ?_
        obtain ⟨r_17, k_18, hx_19, h⟩ := b2_I h
        refine kVi (As := [.int 3]) (rest := []) B hK hN hP hD hS hA (c_X7_no l D cI cJ q u o T t M k_1 V v 3 r_17 k_18 rs hx_19) (cwV 1 hts gX7_wish_X7_no rfl rfl rfl (by decide +kernel) ⟨(Nat.le_of_ble_eq_true rfl), (Nat.le_of_ble_eq_true rfl)⟩) 10 5 rfl rfl rfl hl.1 rfl (Nat.le_of_ble_eq_true rfl) dX7_wish_45 ⟨(Nat.le_of_ble_eq_true rfl), (Nat.le_of_ble_eq_true rfl)⟩ rfl (fun H locs hP hD hS => ?_)
        obtain ⟨h0, h1, h2, h3, h4⟩ := o5 h
        exact eI hx hb hr hlk hP hS dX7_wish_48 (Nat.le_of_ble_eq_true rfl) (Nat.le_of_ble_eq_true rfl) h0 (by rw [h1, h2, h3, h4])
    · have h := ip_ h c_3
      refine lv_aload_n hx hb dX7_wish_28 rfl (lv_at hl 0 rfl) ?_
      refine lv_iconst (v := 2) hx hb dX7_wish_29 (by decide) ?_
      obtain ⟨r_20, k_21, hx_22, h⟩ := b2_I h
      refine kVi (As := [.int 2]) (rest := []) B hK hN hP hD hS hA (c_X7_no l D cI cJ q u o T t M k_1 V v 2 r_20 k_21 rs hx_22) (cwV 1 hts gX7_wish_X7_no rfl rfl rfl (by decide +kernel) ⟨(Nat.le_of_ble_eq_true rfl), (Nat.le_of_ble_eq_true rfl)⟩) 10 5 rfl rfl rfl hl.1 rfl (Nat.le_of_ble_eq_true rfl) dX7_wish_30 ⟨(Nat.le_of_ble_eq_true rfl), (Nat.le_of_ble_eq_true rfl)⟩ rfl (fun H locs hP hD hS => ?_)
      obtain ⟨h0, h1, h2, h3, h4⟩ := o5 h
      exact eI hx hb hr hlk hP hS dX7_wish_33 (Nat.le_of_ble_eq_true rfl) (Nat.le_of_ble_eq_true rfl) h0 (by rw [h1, h2, h3, h4])
  · have h := ip_ h c_2
    refine lv_aload_n hx hb dX7_wish_13 rfl (lv_at hl 0 rfl) ?_
    refine lv_iconst (v := 1) hx hb dX7_wish_14 (by decide) ?_
    obtain ⟨r_23, k_24, hx_25, h⟩ := b2_I h
    refine kVi (As := [.int 1]) (rest := []) B hK hN hP hD hS hA (c_X7_no l D cI cJ q u o T t M k_1 V v 1 r_23 k_24 rs hx_25) (cwV 1 hts gX7_wish_X7_no rfl rfl rfl (by decide +kernel) ⟨(Nat.le_of_ble_eq_true rfl), (Nat.le_of_ble_eq_true rfl)⟩) 10 5 rfl rfl rfl hl.1 rfl (Nat.le_of_ble_eq_true rfl) dX7_wish_15 ⟨(Nat.le_of_ble_eq_true rfl), (Nat.le_of_ble_eq_true rfl)⟩ rfl (fun H locs hP hD hS => ?_)
    obtain ⟨h0, h1, h2, h3, h4⟩ := o5 h
    exact eI hx hb hr hlk hP hS dX7_wish_18 (Nat.le_of_ble_eq_true rfl) (Nat.le_of_ble_eq_true rfl) h0 (by rw [h1, h2, h3, h4])
noncomputable def fX7_withdraw_B69 (M : Nat → Nat → Int32) (p0 : Int32) (T_6 : Nat → Nat → Int32) (t_7 : Nat → Int32) (k_1 : Nat → Int32) (x2_8 : Int32)  : Option ((Int32) ⊕ ((Int32) ⊕ (Int32 × (Nat → Nat → Int32) × (Nat → Int32) × (Nat → Nat → Int32) × (Nat → Int32)))) := if 5 ≤ x2_8 then (some (.inr (.inl (x2_8)))) else (gd (vp_in p0 24) (lt_ ((6 * x2_8) + (M 6 (Int32.toNatClampNeg p0))) (fun y3_11 => gd (vp_in y3_11 30) (if (T_6 0 (Int32.toNatClampNeg y3_11)) = 0 then (some (.inl (x2_8 + 1))) else (gd (vp_in y3_11 30) (gd (vp_in y3_11 30) (lt_ (uG T_6 0 (upd (T_6 0) (Int32.toNatClampNeg y3_11) ((T_6 0 (Int32.toNatClampNeg y3_11)) - 1))) (fun T_16 => gd (vp_in p0 24) (gd (vp_in (M 6 (Int32.toNatClampNeg p0)) 6) (gd (vp_in (M 6 (Int32.toNatClampNeg p0)) 6) (lt_ (uG M 4 (upd (M 4) (Int32.toNatClampNeg (M 6 (Int32.toNatClampNeg p0))) ((M 4 (Int32.toNatClampNeg (M 6 (Int32.toNatClampNeg p0)))) + 1))) (fun M_20 => some (.inr (.inr (x2_8, T_16, t_7, M_20, k_1)))))))))))))))
noncomputable def fX7_withdraw (T : Nat → Nat → Int32) (t : Nat → Int32) (M : Nat → Nat → Int32) (k : Nat → Int32) (p0 : Int32) : Option (Int32 × (Nat → Nat → Int32) × (Nat → Int32) × (Nat → Nat → Int32) × (Nat → Int32)) := lt_ (uS k 0 0) (fun k_1 => if (fX7_isWish k_1 p0) = 0 then (b2 (fX7_no k_1 1) (fun r_24 k_25 => some (r_24, T, t, M, k_25))) else (gd (vp_in p0 24) (if (T 2 (Int32.toNatClampNeg p0)) = 0 then (gd (vp_in p0 24) (lt_ (uG T 2 (upd (T 2) (Int32.toNatClampNeg p0) 2)) (fun T_6 => lt_ (uS t 1 (if 0 < ((t 1) - 5) then (t 1) - 5 else 0)) (fun t_7 => ((lp (fun s => fX7_withdraw_B69 M p0 T_6 t_7 k_1 s) 6 (0))).bind (fun zz_8 => se zz_8 (fun t_8 => some ((-1), T_6, t_7, M, k_1))))))) else (b2 (fX7_no k_1 2) (fun r_21 k_22 => some (r_21, T, t, M, k_22))))))
set_option maxHeartbeats 4000000 in
set_option maxRecDepth 100000 in
theorem c_X7_withdraw (l : Launch) (D : va_G) (cI cJ : ClassId) (q u o : Nat → Nat) (T : Nat → Nat → Int32) (t : Nat → Int32) (M : Nat → Nat → Int32) (k : Nat → Int32) (V : Nat → Nat → Int32) (v : Nat → Int32) (p0 : Int32) (r' : Int32) (T' : Nat → Nat → Int32) (t' : Nat → Int32) (M' : Nat → Nat → Int32) (k' : Nat → Int32) (rs : va_W) (h : fX7_withdraw T t M k p0 = some (r', T', t', M', k')) : Ci l yX7_withdraw wsX7_withdraw ({ frames := 2, cells := 0, slots := 0, locals := 43 } : Room) D cI cJ ([.ref (o 0), .int p0] : List Value) (ms cI q o T t ++ (mo cI o (q 0) (u 0) M k ++ (ms cI u o V v ++ rs))) r' (ms cI q o T' t' ++ (mo cI o (q 0) (u 0) M' k' ++ (ms cI u o V v ++ rs))) := by
  refine Ci.mk (cc := cX7_withdraw) (maxL := 4) (ret := (some .int)) (by decide) rfl (Nat.le_of_ble_eq_true rfl) ?_
  intro p e s m below meth c A ls B hr hlk hK hN hA hP hD hl
  obtain ⟨hx, hb, hml, hown, hts⟩ := id B
  have hi_X6 : ∀ w ∈ wsX60, w ∈ wsX7_withdraw := fun _ h => List.mem_cons_of_mem _ (List.mem_append_left _ (List.mem_append_right _ (h)))
  have hi_X7 : ∀ w ∈ wsX70, w ∈ wsX7_withdraw := fun _ h => List.mem_cons_of_mem _ (List.mem_append_left _ (List.mem_append_left _ (List.mem_append_right _ (h))))
  have hS : va_S A s.heap s.heap [] := va_S.rf
  have hl : lv_has ls 4 [(0, .ref (o 0)), (1, .int p0)] := hl
  unfold fX7_withdraw at h
  refine lv_aload_n hx hb dX7_withdraw_0 rfl (lv_at hl 0 rfl) ?_
  refine lv_iconst (v := 0) hx hb dX7_withdraw_1 (by decide) ?_
  refine va_put (D := D) (ci := 10) (v := .int 0) (ty := .int) (C := RX7) (T := TX7) (N := 15) hx hb hts hi_X7 tyX7 tyX7_ok nmX7 hown hK hP hD hS 5 rfl rfl 0 (by decide) (hts (.fieldLink RX7 46 "WishWellModel" "thrown" "I") (List.mem_of_getElem? (i := 1) rfl)) (fun _ h9 => h9) rfl (by decide +kernel) rfl rfl (Nat.le_of_ble_eq_true rfl) dX7_withdraw_2 (fun H locs hP hD hS => ?_)
  obtain ⟨k_1, ek_1, h⟩ := lt_I h
  have hP : va_P D vwCl (ms cI q o T t ++ (mo cI o (q 0) (u 0) M k_1 ++ (ms cI u o V v ++ rs))) H := by rw [ek_1]; exact hP
  have hD : va_D A (ms cI q o T t ++ (mo cI o (q 0) (u 0) M k_1 ++ (ms cI u o V v ++ rs))) := by rw [ek_1]; exact hD
  refine lv_aload_n hx hb dX7_withdraw_5 rfl (lv_at hl 0 rfl) ?_
  refine lv_iload_n hx hb dX7_withdraw_6 rfl (lv_at hl 1 rfl) ?_
  refine kVi (As := [.int p0]) (rest := []) B hK hN hP hD hS hA (c_X7_isWish l D cI cJ q u o T t M k_1 V v p0 rs _ rfl) (cwV 1 hts gX7_withdraw_X7_isWish rfl rfl rfl (by decide +kernel) ⟨(Nat.le_of_ble_eq_true rfl), (Nat.le_of_ble_eq_true rfl)⟩) 10 5 rfl rfl rfl hl.1 rfl (Nat.le_of_ble_eq_true rfl) dX7_withdraw_7 ⟨(Nat.le_of_ble_eq_true rfl), (Nat.le_of_ble_eq_true rfl)⟩ rfl (fun H locs hP hD hS => ?_)
  refine lv_if_ne (tgt := 19) hx hb dX7_withdraw_10 (by decide) (fun c_2 => ?_) (fun c_2 => ?_)
  · have h := in_ h c_2
    refine lv_aload_n hx hb dX7_withdraw_19 rfl (lv_at hl 0 rfl) ?_
    refine va_get (ci := 10) (v := .ref (q 0)) (C := RX7) (T := TX7) (N := 15) hx hb hts hi_X7 hown hK hP 5 rfl rfl 13 (by decide) (hts (.fieldLink RX7 39 "WishWellModel" "s" "LWishWellModel$State;") (List.mem_of_getElem? (i := 2) rfl)) (fun _ h9 => h9) rfl dX7_withdraw_20 ?_
    refine va_getN (own := RX7) (ref := "WishWellModel$State") (host := "WishWellModel") (index := 81) (ci := 9) (v := .ref (q 3)) (C := RX6) (T := TX6) (N := 8) hx hb hts hi_X6 hown hK hP 0 rfl rfl 5 (by decide) (nF_5 hN) (fun _ h9 => h9) rfl dX7_withdraw_23 ?_
    refine lv_iload_n hx hb dX7_withdraw_26 rfl (lv_at hl 1 rfl) ?_
    obtain ⟨c_3, h⟩ := gd_I h
    refine va_iald hx hb hK hP 3 0 rfl rfl c_3 dX7_withdraw_27 ?_
    refine lv_if_eq (tgt := 37) hx hb dX7_withdraw_28 (by decide) (fun c_4 => ?_) (fun c_4 => ?_)
    · have h := ip_ h c_4
      refine lv_aload_n hx hb dX7_withdraw_37 rfl (lv_at hl 0 rfl) ?_
      refine va_get (ci := 10) (v := .ref (q 0)) (C := RX7) (T := TX7) (N := 15) hx hb hts hi_X7 hown hK hP 5 rfl rfl 13 (by decide) (hts (.fieldLink RX7 39 "WishWellModel" "s" "LWishWellModel$State;") (List.mem_of_getElem? (i := 2) rfl)) (fun _ h9 => h9) rfl dX7_withdraw_38 ?_
      refine va_getN (own := RX7) (ref := "WishWellModel$State") (host := "WishWellModel") (index := 81) (ci := 9) (v := .ref (q 3)) (C := RX6) (T := TX6) (N := 8) hx hb hts hi_X6 hown hK hP 0 rfl rfl 5 (by decide) (nF_5 hN) (fun _ h9 => h9) rfl dX7_withdraw_41 ?_
      refine lv_iload_n hx hb dX7_withdraw_44 rfl (lv_at hl 1 rfl) ?_
      refine lv_iconst (v := 2) hx hb dX7_withdraw_45 (by decide) ?_
      obtain ⟨c_5, h⟩ := gd_I h
      refine va_iast hx hb hK hP hD hS 3 0 rfl rfl c_5 dX7_withdraw_46 (fun H locs hP hD hS => ?_)
      obtain ⟨T_6, eT_6, h⟩ := lt_I h
      have hP : va_P D vwCl (ms cI q o T_6 t ++ (mo cI o (q 0) (u 0) M k_1 ++ (ms cI u o V v ++ rs))) H := by rw [eT_6]; exact hP
      have hD : va_D A (ms cI q o T_6 t ++ (mo cI o (q 0) (u 0) M k_1 ++ (ms cI u o V v ++ rs))) := by rw [eT_6]; exact hD
      refine lv_aload_n hx hb dX7_withdraw_47 rfl (lv_at hl 0 rfl) ?_
      refine va_get (ci := 10) (v := .ref (q 0)) (C := RX7) (T := TX7) (N := 15) hx hb hts hi_X7 hown hK hP 5 rfl rfl 13 (by decide) (hts (.fieldLink RX7 39 "WishWellModel" "s" "LWishWellModel$State;") (List.mem_of_getElem? (i := 2) rfl)) (fun _ h9 => h9) rfl dX7_withdraw_48 ?_
      refine lv_iconst (v := 0) hx hb dX7_withdraw_51 (by decide) ?_
      refine lv_aload_n hx hb dX7_withdraw_52 rfl (lv_at hl 0 rfl) ?_
      refine va_get (ci := 10) (v := .ref (q 0)) (C := RX7) (T := TX7) (N := 15) hx hb hts hi_X7 hown hK hP 5 rfl rfl 13 (by decide) (hts (.fieldLink RX7 39 "WishWellModel" "s" "LWishWellModel$State;") (List.mem_of_getElem? (i := 2) rfl)) (fun _ h9 => h9) rfl dX7_withdraw_53 ?_
      refine va_getN (own := RX7) (ref := "WishWellModel$State") (host := "WishWellModel") (index := 84) (ci := 9) (v := .int (t 1)) (C := RX6) (T := TX6) (N := 8) hx hb hts hi_X6 hown hK hP 0 rfl rfl 1 (by decide) (nF_1 hN) (fun _ h9 => h9) rfl dX7_withdraw_56 ?_
      refine lv_iconst (v := 5) hx hb dX7_withdraw_59 (by decide) ?_
      refine lv_isub hx hb dX7_withdraw_60 ?_
      refine va_mmax hx hb (hml.trans hl.1.symm) hown (hts (.methodLink RX7 87 Lib.Math.max.name) (List.mem_of_getElem? (i := 3) rfl)) (hts (.static Lib.Math.max.name) (List.mem_of_getElem? (i := 4) rfl)) (hts (.initialized "java/lang/Math") (List.mem_of_getElem? (i := 5) rfl)) (hts (.code Lib.Math.max.name Lib.Math.max.code 2 (some .int)) (List.mem_of_getElem? (i := 6) rfl)) (Nat.le_of_ble_eq_true rfl) (Nat.le_of_ble_eq_true rfl) (Nat.le_of_ble_eq_true rfl) (Nat.le_of_ble_eq_true rfl) dX7_withdraw_61 ?_
      refine va_putN (own := RX7) (ref := "WishWellModel$State") (host := "WishWellModel") (index := 84) (D := D) (ci := 9) (v := .int (if 0 < ((t 1) - 5) then (t 1) - 5 else 0)) (ty := .int) (C := RX6) (T := TX6) (N := 8) hx hb hts hi_X6 tyX6 tyX6_ok nmX6 hown hK hP hD hS 0 rfl rfl 1 (by decide) (nF_1 hN) (fun _ h9 => h9) rfl (by decide +kernel) rfl rfl (Nat.le_of_ble_eq_true rfl) dX7_withdraw_64 (fun H locs hP hD hS => ?_)
      obtain ⟨t_7, et_7, h⟩ := lt_I h
      have hP : va_P D vwCl (ms cI q o T_6 t_7 ++ (mo cI o (q 0) (u 0) M k_1 ++ (ms cI u o V v ++ rs))) H := by rw [et_7]; exact hP
      have hD : va_D A (ms cI q o T_6 t_7 ++ (mo cI o (q 0) (u 0) M k_1 ++ (ms cI u o V v ++ rs))) := by rw [et_7]; exact hD
      refine lv_iconst (v := 0) hx hb dX7_withdraw_67 (by decide) ?_
      refine lv_istore_n (lv' := [(2, .int 0), (0, .ref (o 0)), (1, .int p0)]) hx hb dX7_withdraw_68 rfl hl (by decide) rfl (fun ls hl => ?_)
      have L69_8 : ∀ (n : Nat) (x2_8 : Int32)  (zz : (Int32) ⊕ (Int32 × (Nat → Nat → Int32) × (Nat → Int32) × (Nat → Nat → Int32) × (Nat → Int32))) (_ : lp (fun s => fX7_withdraw_B69 M p0 T_6 t_7 k_1 s) n x2_8 = some zz) (_ : ∀ (z2_8 : Int32) , zz = .inl z2_8 → ∀ (H : Heap) (locs : List Loc) (ls : Array Slot), va_P D vwCl (ms cI q o T_6 t_7 ++ (mo cI o (q 0) (u 0) M k_1 ++ (ms cI u o V v ++ rs))) H → va_D A (ms cI q o T_6 t_7 ++ (mo cI o (q 0) (u 0) M k_1 ++ (ms cI u o V v ++ rs))) → va_S A s.heap H locs → lv_has ls 4 [(0, .ref (o 0)), (1, .int p0), (2, .int z2_8)] → W p l e (headSpec wsX7_withdraw ({ frames := 2, cells := 0, slots := 0, locals := 43 } : Room)).room s m ([.ref (o 0), .int p0] : List Value).toArray below meth c H locs (0) (0) (QI below D (ms cI q o T' t' ++ (mo cI o (q 0) (u 0) M' k' ++ (ms cI u o V v ++ rs))) r' ([.ref (o 0), .int p0] : List Value).toArray s 0 0 A) (F0 m 137 ls [])) (_ : ∀ o, zz = .inr o → o = (r', T', t', M', k')) (H : Heap) (locs : List Loc) (ls : Array Slot), va_P D vwCl (ms cI q o T_6 t_7 ++ (mo cI o (q 0) (u 0) M k_1 ++ (ms cI u o V v ++ rs))) H → va_D A (ms cI q o T_6 t_7 ++ (mo cI o (q 0) (u 0) M k_1 ++ (ms cI u o V v ++ rs))) → va_S A s.heap H locs → lv_has ls 4 [(0, .ref (o 0)), (1, .int p0), (2, .int x2_8)] → W p l e (headSpec wsX7_withdraw ({ frames := 2, cells := 0, slots := 0, locals := 43 } : Room)).room s m ([.ref (o 0), .int p0] : List Value).toArray below meth c H locs (0) (0) (QI below D (ms cI q o T' t' ++ (mo cI o (q 0) (u 0) M' k' ++ (ms cI u o V v ++ rs))) r' ([.ref (o 0), .int p0] : List Value).toArray s 0 0 A) (F0 m 69 ls []) := by
        intro n
        induction n with
        | zero => intro x2_8 zz h; exact (lp_0 h).elim
        | succ n ih =>
          intro x2_8 zz h kk kr H locs ls hP hD hS hl
          obtain ⟨z, h, hz⟩ := lp_walk h
          have h : fX7_withdraw_B69 M p0 T_6 t_7 k_1 x2_8 = some z := h
          unfold fX7_withdraw_B69 at h
          refine lv_iload_n hx hb dX7_withdraw_69 rfl (lv_at hl 2 rfl) ?_
          refine lv_iconst (v := 5) hx hb dX7_withdraw_70 (by decide) ?_
          refine lv_icmp_ge (tgt := 137) hx hb dX7_withdraw_71 (by decide) (fun c_9 => ?_) (fun c_9 => ?_)
          · have h := ip_ h c_9
            cases lz_e h hz
            exact kk _ rfl _ _ _ hP hD hS (lv_sub hl [0, 1, 2] rfl)
          · have h := in_ h c_9
            refine lv_bipush (v := 6) hx hb dX7_withdraw_74 (by decide) ?_
            refine lv_iload_n hx hb dX7_withdraw_76 rfl (lv_at hl 2 rfl) ?_
            refine lv_imul hx hb dX7_withdraw_77 ?_
            refine lv_aload_n hx hb dX7_withdraw_78 rfl (lv_at hl 0 rfl) ?_
            refine va_get (ci := 10) (v := .ref (o 7)) (C := RX7) (T := TX7) (N := 15) hx hb hts hi_X7 hown hK hP 5 rfl rfl 9 (by decide) (hts (.fieldLink RX7 28 "WishWellModel" "landOf" "[I") (List.mem_of_getElem? (i := 7) rfl)) (fun _ h9 => h9) rfl dX7_withdraw_79 ?_
            refine lv_iload_n hx hb dX7_withdraw_82 rfl (lv_at hl 1 rfl) ?_
            obtain ⟨c_10, h⟩ := gd_I h
            refine va_iald hx hb hK hP 12 0 rfl rfl c_10 dX7_withdraw_83 ?_
            refine lv_iadd hx hb dX7_withdraw_84 ?_
            obtain ⟨y3_11, ey3_11, h⟩ := lt_I h
            rw [← ey3_11]
            refine lv_istore_n (lv' := [(3, .int y3_11), (0, .ref (o 0)), (1, .int p0), (2, .int x2_8)]) hx hb dX7_withdraw_85 rfl hl (by decide) rfl (fun ls hl => ?_)
            refine lv_aload_n hx hb dX7_withdraw_86 rfl (lv_at hl 1 rfl) ?_
            refine va_get (ci := 10) (v := .ref (q 0)) (C := RX7) (T := TX7) (N := 15) hx hb hts hi_X7 hown hK hP 5 rfl rfl 13 (by decide) (hts (.fieldLink RX7 39 "WishWellModel" "s" "LWishWellModel$State;") (List.mem_of_getElem? (i := 2) rfl)) (fun _ h9 => h9) rfl dX7_withdraw_87 ?_
            refine va_getN (own := RX7) (ref := "WishWellModel$State") (host := "WishWellModel") (index := 93) (ci := 9) (v := .ref (q 1)) (C := RX6) (T := TX6) (N := 8) hx hb hts hi_X6 hown hK hP 0 rfl rfl 3 (by decide) (nF_3 hN) (fun _ h9 => h9) rfl dX7_withdraw_90 ?_
            refine lv_iload_n hx hb dX7_withdraw_93 rfl (lv_at hl 0 rfl) ?_
            obtain ⟨c_12, h⟩ := gd_I h
            refine va_iald hx hb hK hP 1 0 rfl rfl c_12 dX7_withdraw_94 ?_
            refine lv_if_ne (tgt := 101) hx hb dX7_withdraw_95 (by decide) (fun c_13 => ?_) (fun c_13 => ?_)
            · have h := in_ h c_13
              refine lv_aload_n hx hb dX7_withdraw_101 rfl (lv_at hl 1 rfl) ?_
              refine va_get (ci := 10) (v := .ref (q 0)) (C := RX7) (T := TX7) (N := 15) hx hb hts hi_X7 hown hK hP 5 rfl rfl 13 (by decide) (hts (.fieldLink RX7 39 "WishWellModel" "s" "LWishWellModel$State;") (List.mem_of_getElem? (i := 2) rfl)) (fun _ h9 => h9) rfl dX7_withdraw_102 ?_
              refine va_getN (own := RX7) (ref := "WishWellModel$State") (host := "WishWellModel") (index := 93) (ci := 9) (v := .ref (q 1)) (C := RX6) (T := TX6) (N := 8) hx hb hts hi_X6 hown hK hP 0 rfl rfl 3 (by decide) (nF_3 hN) (fun _ h9 => h9) rfl dX7_withdraw_105 ?_
              refine lv_iload_n hx hb dX7_withdraw_108 rfl (lv_at hl 0 rfl) ?_
              refine lv_dup2_11 hx hb dX7_withdraw_109 rfl rfl ?_
              obtain ⟨c_14, h⟩ := gd_I h
              refine va_iald hx hb hK hP 1 0 rfl rfl c_14 dX7_withdraw_110 ?_
              refine lv_iconst (v := 1) hx hb dX7_withdraw_111 (by decide) ?_
              refine lv_isub hx hb dX7_withdraw_112 ?_
              obtain ⟨c_15, h⟩ := gd_I h
              refine va_iast hx hb hK hP hD hS 1 0 rfl rfl c_15 dX7_withdraw_113 (fun H locs hP hD hS => ?_)
              obtain ⟨T_16, eT_16, h⟩ := lt_I h
              have hP : va_P D vwCl (ms cI q o T_16 t_7 ++ (mo cI o (q 0) (u 0) M k_1 ++ (ms cI u o V v ++ rs))) H := by rw [eT_16]; exact hP
              have hD : va_D A (ms cI q o T_16 t_7 ++ (mo cI o (q 0) (u 0) M k_1 ++ (ms cI u o V v ++ rs))) := by rw [eT_16]; exact hD
              refine lv_aload_n hx hb dX7_withdraw_114 rfl (lv_at hl 1 rfl) ?_
              refine va_get (ci := 10) (v := .ref (o 5)) (C := RX7) (T := TX7) (N := 15) hx hb hts hi_X7 hown hK hP 5 rfl rfl 6 (by decide) (hts (.fieldLink RX7 22 "WishWellModel" "back" "[I") (List.mem_of_getElem? (i := 8) rfl)) (fun _ h9 => h9) rfl dX7_withdraw_115 ?_
              refine lv_aload_n hx hb dX7_withdraw_118 rfl (lv_at hl 1 rfl) ?_
              refine va_get (ci := 10) (v := .ref (o 7)) (C := RX7) (T := TX7) (N := 15) hx hb hts hi_X7 hown hK hP 5 rfl rfl 9 (by decide) (hts (.fieldLink RX7 28 "WishWellModel" "landOf" "[I") (List.mem_of_getElem? (i := 7) rfl)) (fun _ h9 => h9) rfl dX7_withdraw_119 ?_
              refine lv_iload_n hx hb dX7_withdraw_122 rfl (lv_at hl 2 rfl) ?_
              obtain ⟨c_17, h⟩ := gd_I h
              refine va_iald hx hb hK hP 12 0 rfl rfl c_17 dX7_withdraw_123 ?_
              refine lv_dup2_11 hx hb dX7_withdraw_124 rfl rfl ?_
              obtain ⟨c_18, h⟩ := gd_I h
              refine va_iald hx hb hK hP 10 0 rfl rfl c_18 dX7_withdraw_125 ?_
              refine lv_iconst (v := 1) hx hb dX7_withdraw_126 (by decide) ?_
              refine lv_iadd hx hb dX7_withdraw_127 ?_
              obtain ⟨c_19, h⟩ := gd_I h
              refine va_iast hx hb hK hP hD hS 10 0 rfl rfl c_19 dX7_withdraw_128 (fun H locs hP hD hS => ?_)
              obtain ⟨M_20, eM_20, h⟩ := lt_I h
              have hP : va_P D vwCl (ms cI q o T_16 t_7 ++ (mo cI o (q 0) (u 0) M_20 k_1 ++ (ms cI u o V v ++ rs))) H := by rw [eM_20]; exact hP
              have hD : va_D A (ms cI q o T_16 t_7 ++ (mo cI o (q 0) (u 0) M_20 k_1 ++ (ms cI u o V v ++ rs))) := by rw [eM_20]; exact hD
              refine lv_iload_n hx hb dX7_withdraw_129 rfl (lv_at hl 3 rfl) ?_
              have h := kr _ (lz_e h hz).symm
              have h := congrArg some h
              obtain ⟨h0, h1, h2, h3, h4⟩ := o5 h
              exact eI hx hb hr hlk hP hS dX7_withdraw_130 (Nat.le_of_ble_eq_true rfl) (Nat.le_of_ble_eq_true rfl) h0 (by rw [h1, h2, h3, h4])
            · have h := ip_ h c_13
              refine lv_goto (tgt := 131) hx hb dX7_withdraw_98 (by decide) ?_
              refine lv_iinc (v := x2_8 + 1) (lv' := [(2, .int (x2_8 + 1)), (3, .int y3_11), (0, .ref (o 0)), (1, .int p0)]) hx hb dX7_withdraw_131 hl (k := 3) rfl rfl (by decide) rfl (fun ls hl => ?_)
              refine lv_goto (tgt := 69) hx hb dX7_withdraw_134 (by decide) ?_
              exact ih (x2_8 + 1) _ (lz_c h hz) kk kr _ _ _ hP hD hS (lv_sub hl [2, 3, 0] rfl)
      obtain ⟨zz_8, hl_8, h⟩ := bd_I h
      refine L69_8 6 0  zz_8 hl_8 (fun z2_8 ez H locs ls hP hD hS hl => ?_) (fun o ez => by subst ez; exact Option.some.inj h) _ _ _ hP hD hS (lv_sub hl [1, 2, 0] rfl)
      subst ez
      replace h : _ = _ := h
      simp only [se] at h
      refine lv_iconst (v := (-1)) hx hb dX7_withdraw_137 (by decide) ?_
      obtain ⟨h0, h1, h2, h3, h4⟩ := o5 h
      exact eI hx hb hr hlk hP hS dX7_withdraw_138 (Nat.le_of_ble_eq_true rfl) (Nat.le_of_ble_eq_true rfl) h0 (by rw [h1, h2, h3, h4])
    · have h := in_ h c_4
      refine lv_aload_n hx hb dX7_withdraw_31 rfl (lv_at hl 0 rfl) ?_
      refine lv_iconst (v := 2) hx hb dX7_withdraw_32 (by decide) ?_
      obtain ⟨r_21, k_22, hx_23, h⟩ := b2_I h
      refine kVi (As := [.int 2]) (rest := []) B hK hN hP hD hS hA (c_X7_no l D cI cJ q u o T t M k_1 V v 2 r_21 k_22 rs hx_23) (cwV 1 hts gX7_withdraw_X7_no rfl rfl rfl (by decide +kernel) ⟨(Nat.le_of_ble_eq_true rfl), (Nat.le_of_ble_eq_true rfl)⟩) 10 5 rfl rfl rfl hl.1 rfl (Nat.le_of_ble_eq_true rfl) dX7_withdraw_33 ⟨(Nat.le_of_ble_eq_true rfl), (Nat.le_of_ble_eq_true rfl)⟩ rfl (fun H locs hP hD hS => ?_)
      obtain ⟨h0, h1, h2, h3, h4⟩ := o5 h
      exact eI hx hb hr hlk hP hS dX7_withdraw_36 (Nat.le_of_ble_eq_true rfl) (Nat.le_of_ble_eq_true rfl) h0 (by rw [h1, h2, h3, h4])
  · have h := ip_ h c_2
    refine lv_aload_n hx hb dX7_withdraw_13 rfl (lv_at hl 0 rfl) ?_
    refine lv_iconst (v := 1) hx hb dX7_withdraw_14 (by decide) ?_
    obtain ⟨r_24, k_25, hx_26, h⟩ := b2_I h
    refine kVi (As := [.int 1]) (rest := []) B hK hN hP hD hS hA (c_X7_no l D cI cJ q u o T t M k_1 V v 1 r_24 k_25 rs hx_26) (cwV 1 hts gX7_withdraw_X7_no rfl rfl rfl (by decide +kernel) ⟨(Nat.le_of_ble_eq_true rfl), (Nat.le_of_ble_eq_true rfl)⟩) 10 5 rfl rfl rfl hl.1 rfl (Nat.le_of_ble_eq_true rfl) dX7_withdraw_15 ⟨(Nat.le_of_ble_eq_true rfl), (Nat.le_of_ble_eq_true rfl)⟩ rfl (fun H locs hP hD hS => ?_)
    obtain ⟨h0, h1, h2, h3, h4⟩ := o5 h
    exact eI hx hb hr hlk hP hS dX7_withdraw_18 (Nat.le_of_ble_eq_true rfl) (Nat.le_of_ble_eq_true rfl) h0 (by rw [h1, h2, h3, h4])
noncomputable def fX7_fish_B51 (M : Nat → Nat → Int32) (p0 : Int32) (T_4 : Nat → Nat → Int32) (k_1 : Nat → Int32) (x5_6 : Int32) (x6_6 : Int32)  : Option ((Int32 × Int32) ⊕ (Int32 × Int32)) := if (k_1 1) ≤ x6_6 then (some (.inr (x5_6, x6_6))) else (gd (vp_in ((6 * p0) + x6_6) 30) (if (T_4 0 (Int32.toNatClampNeg ((6 * p0) + x6_6))) ≤ 0 then (some (.inl (x5_6, x6_6 + 1))) else (if x5_6 = (-1) then (some (.inl (x6_6, x6_6 + 1))) else (gd (vp_in x6_6 6) (gd (vp_in x5_6 6) (if (M 0 (Int32.toNatClampNeg x6_6)) ≤ (M 0 (Int32.toNatClampNeg x5_6)) then (some (.inl (x5_6, x6_6 + 1))) else (some (.inl (x6_6, x6_6 + 1)))))))))
noncomputable def fX7_fish_B39 (M : Nat → Nat → Int32) (p0 : Int32) (p1 : Int32) (k_1 : Nat → Int32) (x3_4 : Int32) (x4_4 : Int32) (T_4 : Nat → Nat → Int32) : Option ((Int32 × Int32 × (Nat → Nat → Int32)) ⊕ (Int32 × Int32 × (Nat → Nat → Int32))) := if p1 ≤ x4_4 then (some (.inr (x3_4, x4_4, T_4))) else (b2 (lp (fun s => fX7_fish_B51 M p0 T_4 k_1 s.1 s.2) 7 ((-1), 0)) (fun z5_6 z6_6 => if z5_6 = (-1) then (some (.inr (x3_4, x4_4, T_4))) else (gd (vp_in ((6 * p0) + z5_6) 30) (gd (vp_in ((6 * p0) + z5_6) 30) (lt_ (uG T_4 0 (upd (T_4 0) (Int32.toNatClampNeg ((6 * p0) + z5_6)) ((T_4 0 (Int32.toNatClampNeg ((6 * p0) + z5_6))) - 1))) (fun T_17 => gd (vp_in z5_6 6) (lt_ (x3_4 + (M 0 (Int32.toNatClampNeg z5_6))) (fun y3_19 => some (.inl (y3_19, x4_4 + 1, T_17))))))))))
noncomputable def fX7_fish (T : Nat → Nat → Int32) (M : Nat → Nat → Int32) (k : Nat → Int32) (p0 : Int32) (p1 : Int32) : Option (Int32 × (Nat → Nat → Int32) × (Nat → Int32)) := lt_ (uS k 0 0) (fun k_1 => if (fX7_isLayer p0) = 0 then (b2 (fX7_no k_1 1) (fun r_24 k_25 => some (r_24, T, k_25))) else (if (fX7_isIn p1 1 20) = 0 then (b2 (fX7_no k_1 2) (fun r_21 k_22 => some (r_21, T, k_22))) else (b3 (lp (fun s => fX7_fish_B39 M p0 p1 k_1 s.1 s.2.1 s.2.2) 21 (0, 0, T)) (fun z3_4 z4_4 Tz_4 => lt_ (uS k_1 4 ((k_1 4) + z3_4)) (fun k_20 => some (z3_4, Tz_4, k_20))))))
set_option maxHeartbeats 4000000 in
set_option maxRecDepth 100000 in
theorem c_X7_fish (l : Launch) (D : va_G) (cI cJ : ClassId) (q u o : Nat → Nat) (T : Nat → Nat → Int32) (t : Nat → Int32) (M : Nat → Nat → Int32) (k : Nat → Int32) (V : Nat → Nat → Int32) (v : Nat → Int32) (p0 : Int32) (p1 : Int32) (r' : Int32) (T' : Nat → Nat → Int32) (k' : Nat → Int32) (rs : va_W) (h : fX7_fish T M k p0 p1 = some (r', T', k')) : Ci l yX7_fish wsX7_fish ({ frames := 2, cells := 0, slots := 0, locals := 42 } : Room) D cI cJ ([.ref (o 0), .int p0, .int p1] : List Value) (ms cI q o T t ++ (mo cI o (q 0) (u 0) M k ++ (ms cI u o V v ++ rs))) r' (ms cI q o T' t ++ (mo cI o (q 0) (u 0) M k' ++ (ms cI u o V v ++ rs))) := by
  refine Ci.mk (cc := cX7_fish) (maxL := 7) (ret := (some .int)) (by decide) rfl (Nat.le_of_ble_eq_true rfl) ?_
  intro p e s m below meth c A ls B hr hlk hK hN hA hP hD hl
  obtain ⟨hx, hb, hml, hown, hts⟩ := id B
  have hi_X6 : ∀ w ∈ wsX60, w ∈ wsX7_fish := fun _ h => List.mem_cons_of_mem _ (List.mem_append_left _ (List.mem_append_right _ (h)))
  have hi_X7 : ∀ w ∈ wsX70, w ∈ wsX7_fish := fun _ h => List.mem_cons_of_mem _ (List.mem_append_left _ (List.mem_append_left _ (List.mem_append_right _ (h))))
  have hS : va_S A s.heap s.heap [] := va_S.rf
  have hl : lv_has ls 7 [(0, .ref (o 0)), (1, .int p0), (2, .int p1)] := hl
  unfold fX7_fish at h
  refine lv_aload_n hx hb dX7_fish_0 rfl (lv_at hl 0 rfl) ?_
  refine lv_iconst (v := 0) hx hb dX7_fish_1 (by decide) ?_
  refine va_put (D := D) (ci := 10) (v := .int 0) (ty := .int) (C := RX7) (T := TX7) (N := 15) hx hb hts hi_X7 tyX7 tyX7_ok nmX7 hown hK hP hD hS 5 rfl rfl 0 (by decide) (hts (.fieldLink RX7 46 "WishWellModel" "thrown" "I") (List.mem_of_getElem? (i := 1) rfl)) (fun _ h9 => h9) rfl (by decide +kernel) rfl rfl (Nat.le_of_ble_eq_true rfl) dX7_fish_2 (fun H locs hP hD hS => ?_)
  obtain ⟨k_1, ek_1, h⟩ := lt_I h
  have hP : va_P D vwCl (ms cI q o T t ++ (mo cI o (q 0) (u 0) M k_1 ++ (ms cI u o V v ++ rs))) H := by rw [ek_1]; exact hP
  have hD : va_D A (ms cI q o T t ++ (mo cI o (q 0) (u 0) M k_1 ++ (ms cI u o V v ++ rs))) := by rw [ek_1]; exact hD
  refine lv_iload_n hx hb dX7_fish_5 rfl (lv_at hl 1 rfl) ?_
  refine kSi (As := [.int p0]) (rest := []) B hK hN hP hD hS hA (c_X7_isLayer l D cI cJ  p0 (ms cI q o T t ++ (mo cI o (q 0) (u 0) M k_1 ++ (ms cI u o V v ++ rs))) _ rfl) (va_cwS 1 hts gX7_fish_X7_isLayer rfl rfl rfl (by decide +kernel) ⟨(Nat.le_of_ble_eq_true rfl), (Nat.le_of_ble_eq_true rfl)⟩) rfl hl.1 rfl (Nat.le_of_ble_eq_true rfl) dX7_fish_6 ⟨(Nat.le_of_ble_eq_true rfl), (Nat.le_of_ble_eq_true rfl)⟩ rfl (fun H locs hP hD hS => ?_)
  refine lv_if_ne (tgt := 18) hx hb dX7_fish_9 (by decide) (fun c_2 => ?_) (fun c_2 => ?_)
  · have h := in_ h c_2
    refine lv_iload_n hx hb dX7_fish_18 rfl (lv_at hl 2 rfl) ?_
    refine lv_iconst (v := 1) hx hb dX7_fish_19 (by decide) ?_
    refine lv_bipush (v := 20) hx hb dX7_fish_20 (by decide) ?_
    refine kSi (As := [.int p1, .int 1, .int 20]) (rest := []) B hK hN hP hD hS hA (c_X7_isIn l D cI cJ  p1 1 20 (ms cI q o T t ++ (mo cI o (q 0) (u 0) M k_1 ++ (ms cI u o V v ++ rs))) _ rfl) (va_cwS 3 hts gX7_fish_X7_isIn rfl rfl rfl (by decide +kernel) ⟨(Nat.le_of_ble_eq_true rfl), (Nat.le_of_ble_eq_true rfl)⟩) rfl hl.1 rfl (Nat.le_of_ble_eq_true rfl) dX7_fish_22 ⟨(Nat.le_of_ble_eq_true rfl), (Nat.le_of_ble_eq_true rfl)⟩ rfl (fun H locs hP hD hS => ?_)
    refine lv_if_ne (tgt := 34) hx hb dX7_fish_25 (by decide) (fun c_3 => ?_) (fun c_3 => ?_)
    · have h := in_ h c_3
      refine lv_iconst (v := 0) hx hb dX7_fish_34 (by decide) ?_
      refine lv_istore_n (lv' := [(3, .int 0), (0, .ref (o 0)), (1, .int p0), (2, .int p1)]) hx hb dX7_fish_35 rfl hl (by decide) rfl (fun ls hl => ?_)
      refine lv_iconst (v := 0) hx hb dX7_fish_36 (by decide) ?_
      refine lv_istore (lv' := [(4, .int 0), (3, .int 0), (0, .ref (o 0)), (1, .int p0), (2, .int p1)]) hx hb dX7_fish_37 hl (by decide) rfl (fun ls hl => ?_)
      have L39_4 : ∀ (n : Nat) (x3_4 : Int32) (x4_4 : Int32) (T_4 : Nat → Nat → Int32) (z3_4 : Int32) (z4_4 : Int32) (Tz_4 : Nat → Nat → Int32) (_ : lp (fun s => fX7_fish_B39 M p0 p1 k_1 s.1 s.2.1 s.2.2) n (x3_4, x4_4, T_4) = some (z3_4, z4_4, Tz_4)) (_ : ∀ (H : Heap) (locs : List Loc) (ls : Array Slot), va_P D vwCl (ms cI q o Tz_4 t ++ (mo cI o (q 0) (u 0) M k_1 ++ (ms cI u o V v ++ rs))) H → va_D A (ms cI q o Tz_4 t ++ (mo cI o (q 0) (u 0) M k_1 ++ (ms cI u o V v ++ rs))) → va_S A s.heap H locs → lv_has ls 7 [(0, .ref (o 0)), (1, .int p0), (2, .int p1), (3, .int z3_4), (4, .int z4_4)] → W p l e (headSpec wsX7_fish ({ frames := 2, cells := 0, slots := 0, locals := 42 } : Room)).room s m ([.ref (o 0), .int p0, .int p1] : List Value).toArray below meth c H locs (0) (0) (QI below D (ms cI q o T' t ++ (mo cI o (q 0) (u 0) M k' ++ (ms cI u o V v ++ rs))) r' ([.ref (o 0), .int p0, .int p1] : List Value).toArray s 0 0 A) (F0 m 155 ls [])) (H : Heap) (locs : List Loc) (ls : Array Slot), va_P D vwCl (ms cI q o T_4 t ++ (mo cI o (q 0) (u 0) M k_1 ++ (ms cI u o V v ++ rs))) H → va_D A (ms cI q o T_4 t ++ (mo cI o (q 0) (u 0) M k_1 ++ (ms cI u o V v ++ rs))) → va_S A s.heap H locs → lv_has ls 7 [(0, .ref (o 0)), (1, .int p0), (2, .int p1), (3, .int x3_4), (4, .int x4_4)] → W p l e (headSpec wsX7_fish ({ frames := 2, cells := 0, slots := 0, locals := 42 } : Room)).room s m ([.ref (o 0), .int p0, .int p1] : List Value).toArray below meth c H locs (0) (0) (QI below D (ms cI q o T' t ++ (mo cI o (q 0) (u 0) M k' ++ (ms cI u o V v ++ rs))) r' ([.ref (o 0), .int p0, .int p1] : List Value).toArray s 0 0 A) (F0 m 39 ls []) := by
        intro n
        induction n with
        | zero => intro x3_4 x4_4 T_4 z3_4 z4_4 Tz_4 h; exact (lp_0 h).elim
        | succ n ih =>
          intro x3_4 x4_4 T_4 z3_4 z4_4 Tz_4 h kk H locs ls hP hD hS hl
          obtain ⟨z, h, hz⟩ := lp_walk h
          have h : fX7_fish_B39 M p0 p1 k_1 x3_4 x4_4 T_4 = some z := h
          unfold fX7_fish_B39 at h
          refine lv_iload hx hb dX7_fish_39 (lv_at hl 4 rfl) ?_
          refine lv_iload_n hx hb dX7_fish_41 rfl (lv_at hl 2 rfl) ?_
          refine lv_icmp_ge (tgt := 155) hx hb dX7_fish_42 (by decide) (fun c_5 => ?_) (fun c_5 => ?_)
          · have h := ip_ h c_5
            cases lz_e h hz
            exact kk _ _ _ hP hD hS (lv_sub hl [0, 1, 2, 3, 4] rfl)
          · have h := in_ h c_5
            refine lv_iconst (v := (-1)) hx hb dX7_fish_45 (by decide) ?_
            refine lv_istore (lv' := [(5, .int (-1)), (0, .ref (o 0)), (1, .int p0), (2, .int p1), (3, .int x3_4), (4, .int x4_4)]) hx hb dX7_fish_46 hl (by decide) rfl (fun ls hl => ?_)
            refine lv_iconst (v := 0) hx hb dX7_fish_48 (by decide) ?_
            refine lv_istore (lv' := [(6, .int 0), (5, .int (-1)), (0, .ref (o 0)), (1, .int p0), (2, .int p1), (3, .int x3_4), (4, .int x4_4)]) hx hb dX7_fish_49 hl (by decide) rfl (fun ls hl => ?_)
            have L51_6 : ∀ (n : Nat) (x5_6 : Int32) (x6_6 : Int32)  (z5_6 : Int32) (z6_6 : Int32)  (_ : lp (fun s => fX7_fish_B51 M p0 T_4 k_1 s.1 s.2) n (x5_6, x6_6) = some (z5_6, z6_6)) (_ : ∀ (H : Heap) (locs : List Loc) (ls : Array Slot), va_P D vwCl (ms cI q o T_4 t ++ (mo cI o (q 0) (u 0) M k_1 ++ (ms cI u o V v ++ rs))) H → va_D A (ms cI q o T_4 t ++ (mo cI o (q 0) (u 0) M k_1 ++ (ms cI u o V v ++ rs))) → va_S A s.heap H locs → lv_has ls 7 [(0, .ref (o 0)), (1, .int p0), (2, .int p1), (3, .int x3_4), (4, .int x4_4), (5, .int z5_6), (6, .int z6_6)] → W p l e (headSpec wsX7_fish ({ frames := 2, cells := 0, slots := 0, locals := 42 } : Room)).room s m ([.ref (o 0), .int p0, .int p1] : List Value).toArray below meth c H locs (0) (0) (QI below D (ms cI q o T' t ++ (mo cI o (q 0) (u 0) M k' ++ (ms cI u o V v ++ rs))) r' ([.ref (o 0), .int p0, .int p1] : List Value).toArray s 0 0 A) (F0 m 111 ls [])) (H : Heap) (locs : List Loc) (ls : Array Slot), va_P D vwCl (ms cI q o T_4 t ++ (mo cI o (q 0) (u 0) M k_1 ++ (ms cI u o V v ++ rs))) H → va_D A (ms cI q o T_4 t ++ (mo cI o (q 0) (u 0) M k_1 ++ (ms cI u o V v ++ rs))) → va_S A s.heap H locs → lv_has ls 7 [(0, .ref (o 0)), (1, .int p0), (2, .int p1), (3, .int x3_4), (4, .int x4_4), (5, .int x5_6), (6, .int x6_6)] → W p l e (headSpec wsX7_fish ({ frames := 2, cells := 0, slots := 0, locals := 42 } : Room)).room s m ([.ref (o 0), .int p0, .int p1] : List Value).toArray below meth c H locs (0) (0) (QI below D (ms cI q o T' t ++ (mo cI o (q 0) (u 0) M k' ++ (ms cI u o V v ++ rs))) r' ([.ref (o 0), .int p0, .int p1] : List Value).toArray s 0 0 A) (F0 m 51 ls []) := by
              intro n
              induction n with
              | zero => intro x5_6 x6_6 z5_6 z6_6 h; exact (lp_0 h).elim
              | succ n ih =>
                intro x5_6 x6_6 z5_6 z6_6 h kk H locs ls hP hD hS hl
                obtain ⟨z, h, hz⟩ := lp_walk h
                have h : fX7_fish_B51 M p0 T_4 k_1 x5_6 x6_6 = some z := h
                unfold fX7_fish_B51 at h
                refine lv_iload hx hb dX7_fish_51 (lv_at hl 6 rfl) ?_
                refine lv_aload_n hx hb dX7_fish_53 rfl (lv_at hl 0 rfl) ?_
                refine va_get (ci := 10) (v := .int (k_1 1)) (C := RX7) (T := TX7) (N := 15) hx hb hts hi_X7 hown hK hP 5 rfl rfl 1 (by decide) (hts (.fieldLink RX7 50 "WishWellModel" "lands" "I") (List.mem_of_getElem? (i := 2) rfl)) (fun _ h9 => h9) rfl dX7_fish_54 ?_
                refine lv_icmp_ge (tgt := 111) hx hb dX7_fish_57 (by decide) (fun c_7 => ?_) (fun c_7 => ?_)
                · have h := ip_ h c_7
                  cases lz_e h hz
                  exact kk _ _ _ hP hD hS (lv_sub hl [0, 1, 2, 3, 4, 5, 6] rfl)
                · have h := in_ h c_7
                  refine lv_aload_n hx hb dX7_fish_60 rfl (lv_at hl 0 rfl) ?_
                  refine va_get (ci := 10) (v := .ref (q 0)) (C := RX7) (T := TX7) (N := 15) hx hb hts hi_X7 hown hK hP 5 rfl rfl 13 (by decide) (hts (.fieldLink RX7 39 "WishWellModel" "s" "LWishWellModel$State;") (List.mem_of_getElem? (i := 3) rfl)) (fun _ h9 => h9) rfl dX7_fish_61 ?_
                  refine va_getN (own := RX7) (ref := "WishWellModel$State") (host := "WishWellModel") (index := 93) (ci := 9) (v := .ref (q 1)) (C := RX6) (T := TX6) (N := 8) hx hb hts hi_X6 hown hK hP 0 rfl rfl 3 (by decide) (nF_3 hN) (fun _ h9 => h9) rfl dX7_fish_64 ?_
                  refine lv_bipush (v := 6) hx hb dX7_fish_67 (by decide) ?_
                  refine lv_iload_n hx hb dX7_fish_69 rfl (lv_at hl 1 rfl) ?_
                  refine lv_imul hx hb dX7_fish_70 ?_
                  refine lv_iload hx hb dX7_fish_71 (lv_at hl 6 rfl) ?_
                  refine lv_iadd hx hb dX7_fish_73 ?_
                  obtain ⟨c_8, h⟩ := gd_I h
                  refine va_iald hx hb hK hP 1 0 rfl rfl c_8 dX7_fish_74 ?_
                  refine lv_if_le (tgt := 105) hx hb dX7_fish_75 (by decide) (fun c_9 => ?_) (fun c_9 => ?_)
                  · have h := ip_ h c_9
                    refine lv_iinc (v := x6_6 + 1) (lv' := [(6, .int (x6_6 + 1)), (0, .ref (o 0)), (1, .int p0), (2, .int p1), (3, .int x3_4), (4, .int x4_4), (5, .int x5_6)]) hx hb dX7_fish_105 hl (k := 6) rfl rfl (by decide) rfl (fun ls hl => ?_)
                    refine lv_goto (tgt := 51) hx hb dX7_fish_108 (by decide) ?_
                    exact ih x5_6 (x6_6 + 1) _ _ (lz_c h hz) kk _ _ _ hP hD hS (lv_sub hl [1, 2, 3, 4, 5, 6, 0] rfl)
                  · have h := in_ h c_9
                    refine lv_iload hx hb dX7_fish_78 (lv_at hl 5 rfl) ?_
                    refine lv_iconst (v := (-1)) hx hb dX7_fish_80 (by decide) ?_
                    refine lv_icmp_eq (tgt := 101) hx hb dX7_fish_81 (by decide) (fun c_10 => ?_) (fun c_10 => ?_)
                    · have h := ip_ h c_10
                      refine lv_iload hx hb dX7_fish_101 (lv_at hl 6 rfl) ?_
                      refine lv_istore (lv' := [(5, .int x6_6), (0, .ref (o 0)), (1, .int p0), (2, .int p1), (3, .int x3_4), (4, .int x4_4), (6, .int x6_6)]) hx hb dX7_fish_103 hl (by decide) rfl (fun ls hl => ?_)
                      refine lv_iinc (v := x6_6 + 1) (lv' := [(6, .int (x6_6 + 1)), (5, .int x6_6), (0, .ref (o 0)), (1, .int p0), (2, .int p1), (3, .int x3_4), (4, .int x4_4)]) hx hb dX7_fish_105 hl (k := 6) rfl rfl (by decide) rfl (fun ls hl => ?_)
                      refine lv_goto (tgt := 51) hx hb dX7_fish_108 (by decide) ?_
                      exact ih x6_6 (x6_6 + 1) _ _ (lz_c h hz) kk _ _ _ hP hD hS (lv_sub hl [2, 3, 4, 5, 6, 1, 0] rfl)
                    · have h := in_ h c_10
                      refine lv_aload_n hx hb dX7_fish_84 rfl (lv_at hl 0 rfl) ?_
                      refine va_get (ci := 10) (v := .ref (o 1)) (C := RX7) (T := TX7) (N := 15) hx hb hts hi_X7 hown hK hP 5 rfl rfl 2 (by decide) (hts (.fieldLink RX7 9 "WishWellModel" "value" "[I") (List.mem_of_getElem? (i := 4) rfl)) (fun _ h9 => h9) rfl dX7_fish_85 ?_
                      refine lv_iload hx hb dX7_fish_88 (lv_at hl 6 rfl) ?_
                      obtain ⟨c_11, h⟩ := gd_I h
                      refine va_iald hx hb hK hP 6 0 rfl rfl c_11 dX7_fish_90 ?_
                      refine lv_aload_n hx hb dX7_fish_91 rfl (lv_at hl 0 rfl) ?_
                      refine va_get (ci := 10) (v := .ref (o 1)) (C := RX7) (T := TX7) (N := 15) hx hb hts hi_X7 hown hK hP 5 rfl rfl 2 (by decide) (hts (.fieldLink RX7 9 "WishWellModel" "value" "[I") (List.mem_of_getElem? (i := 4) rfl)) (fun _ h9 => h9) rfl dX7_fish_92 ?_
                      refine lv_iload hx hb dX7_fish_95 (lv_at hl 5 rfl) ?_
                      obtain ⟨c_12, h⟩ := gd_I h
                      refine va_iald hx hb hK hP 6 0 rfl rfl c_12 dX7_fish_97 ?_
                      refine lv_icmp_le (tgt := 105) hx hb dX7_fish_98 (by decide) (fun c_13 => ?_) (fun c_13 => ?_)
                      · have h := ip_ h c_13
                        refine lv_iinc (v := x6_6 + 1) (lv' := [(6, .int (x6_6 + 1)), (0, .ref (o 0)), (1, .int p0), (2, .int p1), (3, .int x3_4), (4, .int x4_4), (5, .int x5_6)]) hx hb dX7_fish_105 hl (k := 6) rfl rfl (by decide) rfl (fun ls hl => ?_)
                        refine lv_goto (tgt := 51) hx hb dX7_fish_108 (by decide) ?_
                        exact ih x5_6 (x6_6 + 1) _ _ (lz_c h hz) kk _ _ _ hP hD hS (lv_sub hl [1, 2, 3, 4, 5, 6, 0] rfl)
                      · have h := in_ h c_13
                        refine lv_iload hx hb dX7_fish_101 (lv_at hl 6 rfl) ?_
                        refine lv_istore (lv' := [(5, .int x6_6), (0, .ref (o 0)), (1, .int p0), (2, .int p1), (3, .int x3_4), (4, .int x4_4), (6, .int x6_6)]) hx hb dX7_fish_103 hl (by decide) rfl (fun ls hl => ?_)
                        refine lv_iinc (v := x6_6 + 1) (lv' := [(6, .int (x6_6 + 1)), (5, .int x6_6), (0, .ref (o 0)), (1, .int p0), (2, .int p1), (3, .int x3_4), (4, .int x4_4)]) hx hb dX7_fish_105 hl (k := 6) rfl rfl (by decide) rfl (fun ls hl => ?_)
                        refine lv_goto (tgt := 51) hx hb dX7_fish_108 (by decide) ?_
                        exact ih x6_6 (x6_6 + 1) _ _ (lz_c h hz) kk _ _ _ hP hD hS (lv_sub hl [2, 3, 4, 5, 6, 1, 0] rfl)
            obtain ⟨z5_6, z6_6, hl_6, h⟩ := b2_I h
            refine L51_6 7 (-1) 0  z5_6 z6_6 hl_6 (fun H locs ls hP hD hS hl => ?_) _ _ _ hP hD hS (lv_sub hl [2, 3, 4, 5, 6, 1, 0] rfl)
            refine lv_iload hx hb dX7_fish_111 (lv_at hl 5 rfl) ?_
            refine lv_iconst (v := (-1)) hx hb dX7_fish_113 (by decide) ?_
            refine lv_icmp_ne (tgt := 120) hx hb dX7_fish_114 (by decide) (fun c_14 => ?_) (fun c_14 => ?_)
            · have h := in_ h c_14
              refine lv_aload_n hx hb dX7_fish_120 rfl (lv_at hl 0 rfl) ?_
              refine va_get (ci := 10) (v := .ref (q 0)) (C := RX7) (T := TX7) (N := 15) hx hb hts hi_X7 hown hK hP 5 rfl rfl 13 (by decide) (hts (.fieldLink RX7 39 "WishWellModel" "s" "LWishWellModel$State;") (List.mem_of_getElem? (i := 3) rfl)) (fun _ h9 => h9) rfl dX7_fish_121 ?_
              refine va_getN (own := RX7) (ref := "WishWellModel$State") (host := "WishWellModel") (index := 93) (ci := 9) (v := .ref (q 1)) (C := RX6) (T := TX6) (N := 8) hx hb hts hi_X6 hown hK hP 0 rfl rfl 3 (by decide) (nF_3 hN) (fun _ h9 => h9) rfl dX7_fish_124 ?_
              refine lv_bipush (v := 6) hx hb dX7_fish_127 (by decide) ?_
              refine lv_iload_n hx hb dX7_fish_129 rfl (lv_at hl 1 rfl) ?_
              refine lv_imul hx hb dX7_fish_130 ?_
              refine lv_iload hx hb dX7_fish_131 (lv_at hl 5 rfl) ?_
              refine lv_iadd hx hb dX7_fish_133 ?_
              refine lv_dup2_11 hx hb dX7_fish_134 rfl rfl ?_
              obtain ⟨c_15, h⟩ := gd_I h
              refine va_iald hx hb hK hP 1 0 rfl rfl c_15 dX7_fish_135 ?_
              refine lv_iconst (v := 1) hx hb dX7_fish_136 (by decide) ?_
              refine lv_isub hx hb dX7_fish_137 ?_
              obtain ⟨c_16, h⟩ := gd_I h
              refine va_iast hx hb hK hP hD hS 1 0 rfl rfl c_16 dX7_fish_138 (fun H locs hP hD hS => ?_)
              obtain ⟨T_17, eT_17, h⟩ := lt_I h
              have hP : va_P D vwCl (ms cI q o T_17 t ++ (mo cI o (q 0) (u 0) M k_1 ++ (ms cI u o V v ++ rs))) H := by rw [eT_17]; exact hP
              have hD : va_D A (ms cI q o T_17 t ++ (mo cI o (q 0) (u 0) M k_1 ++ (ms cI u o V v ++ rs))) := by rw [eT_17]; exact hD
              refine lv_iload_n hx hb dX7_fish_139 rfl (lv_at hl 3 rfl) ?_
              refine lv_aload_n hx hb dX7_fish_140 rfl (lv_at hl 0 rfl) ?_
              refine va_get (ci := 10) (v := .ref (o 1)) (C := RX7) (T := TX7) (N := 15) hx hb hts hi_X7 hown hK hP 5 rfl rfl 2 (by decide) (hts (.fieldLink RX7 9 "WishWellModel" "value" "[I") (List.mem_of_getElem? (i := 4) rfl)) (fun _ h9 => h9) rfl dX7_fish_141 ?_
              refine lv_iload hx hb dX7_fish_144 (lv_at hl 5 rfl) ?_
              obtain ⟨c_18, h⟩ := gd_I h
              refine va_iald hx hb hK hP 6 0 rfl rfl c_18 dX7_fish_146 ?_
              refine lv_iadd hx hb dX7_fish_147 ?_
              obtain ⟨y3_19, ey3_19, h⟩ := lt_I h
              rw [← ey3_19]
              refine lv_istore_n (lv' := [(3, .int y3_19), (0, .ref (o 0)), (1, .int p0), (2, .int p1), (4, .int x4_4), (5, .int z5_6), (6, .int z6_6)]) hx hb dX7_fish_148 rfl hl (by decide) rfl (fun ls hl => ?_)
              refine lv_iinc (v := x4_4 + 1) (lv' := [(4, .int (x4_4 + 1)), (3, .int y3_19), (0, .ref (o 0)), (1, .int p0), (2, .int p1), (5, .int z5_6), (6, .int z6_6)]) hx hb dX7_fish_149 hl (k := 4) rfl rfl (by decide) rfl (fun ls hl => ?_)
              refine lv_goto (tgt := 39) hx hb dX7_fish_152 (by decide) ?_
              exact ih y3_19 (x4_4 + 1) T_17 _ _ _ (lz_c h hz) kk _ _ _ hP hD hS (lv_sub hl [2, 3, 4, 1, 0] rfl)
            · have h := ip_ h c_14
              refine lv_goto (tgt := 155) hx hb dX7_fish_117 (by decide) ?_
              cases lz_e h hz
              exact kk _ _ _ hP hD hS (lv_sub hl [0, 1, 2, 3, 4] rfl)
      obtain ⟨z3_4, z4_4, Tz_4, hl_4, h⟩ := b3_I h
      refine L39_4 21 0 0 T z3_4 z4_4 Tz_4 hl_4 (fun H locs ls hP hD hS hl => ?_) _ _ _ hP hD hS (lv_sub hl [2, 3, 4, 1, 0] rfl)
      refine lv_aload_n hx hb dX7_fish_155 rfl (lv_at hl 0 rfl) ?_
      refine lv_dup hx hb dX7_fish_156 rfl ?_
      refine va_get (ci := 10) (v := .int (k_1 4)) (C := RX7) (T := TX7) (N := 15) hx hb hts hi_X7 hown hK hP 5 rfl rfl 12 (by decide) (hts (.fieldLink RX7 99 "WishWellModel" "fished" "I") (List.mem_of_getElem? (i := 5) rfl)) (fun _ h9 => h9) rfl dX7_fish_157 ?_
      refine lv_iload_n hx hb dX7_fish_160 rfl (lv_at hl 3 rfl) ?_
      refine lv_iadd hx hb dX7_fish_161 ?_
      refine va_put (D := D) (ci := 10) (v := .int ((k_1 4) + z3_4)) (ty := .int) (C := RX7) (T := TX7) (N := 15) hx hb hts hi_X7 tyX7 tyX7_ok nmX7 hown hK hP hD hS 5 rfl rfl 12 (by decide) (hts (.fieldLink RX7 99 "WishWellModel" "fished" "I") (List.mem_of_getElem? (i := 5) rfl)) (fun _ h9 => h9) rfl (by decide +kernel) rfl rfl (Nat.le_of_ble_eq_true rfl) dX7_fish_162 (fun H locs hP hD hS => ?_)
      obtain ⟨k_20, ek_20, h⟩ := lt_I h
      have hP : va_P D vwCl (ms cI q o Tz_4 t ++ (mo cI o (q 0) (u 0) M k_20 ++ (ms cI u o V v ++ rs))) H := by rw [ek_20]; exact hP
      have hD : va_D A (ms cI q o Tz_4 t ++ (mo cI o (q 0) (u 0) M k_20 ++ (ms cI u o V v ++ rs))) := by rw [ek_20]; exact hD
      refine lv_iload_n hx hb dX7_fish_165 rfl (lv_at hl 3 rfl) ?_
      obtain ⟨h0, h1, h2⟩ := o3 h
      exact eI hx hb hr hlk hP hS dX7_fish_166 (Nat.le_of_ble_eq_true rfl) (Nat.le_of_ble_eq_true rfl) h0 (by rw [h1, h2])
    · have h := ip_ h c_3
      refine lv_aload_n hx hb dX7_fish_28 rfl (lv_at hl 0 rfl) ?_
      refine lv_iconst (v := 2) hx hb dX7_fish_29 (by decide) ?_
      obtain ⟨r_21, k_22, hx_23, h⟩ := b2_I h
      refine kVi (As := [.int 2]) (rest := []) B hK hN hP hD hS hA (c_X7_no l D cI cJ q u o T t M k_1 V v 2 r_21 k_22 rs hx_23) (cwV 1 hts gX7_fish_X7_no rfl rfl rfl (by decide +kernel) ⟨(Nat.le_of_ble_eq_true rfl), (Nat.le_of_ble_eq_true rfl)⟩) 10 5 rfl rfl rfl hl.1 rfl (Nat.le_of_ble_eq_true rfl) dX7_fish_30 ⟨(Nat.le_of_ble_eq_true rfl), (Nat.le_of_ble_eq_true rfl)⟩ rfl (fun H locs hP hD hS => ?_)
      obtain ⟨h0, h1, h2⟩ := o3 h
      exact eI hx hb hr hlk hP hS dX7_fish_33 (Nat.le_of_ble_eq_true rfl) (Nat.le_of_ble_eq_true rfl) h0 (by rw [h1, h2])
  · have h := ip_ h c_2
    refine lv_aload_n hx hb dX7_fish_12 rfl (lv_at hl 0 rfl) ?_
    refine lv_iconst (v := 1) hx hb dX7_fish_13 (by decide) ?_
    obtain ⟨r_24, k_25, hx_26, h⟩ := b2_I h
    refine kVi (As := [.int 1]) (rest := []) B hK hN hP hD hS hA (c_X7_no l D cI cJ q u o T t M k_1 V v 1 r_24 k_25 rs hx_26) (cwV 1 hts gX7_fish_X7_no rfl rfl rfl (by decide +kernel) ⟨(Nat.le_of_ble_eq_true rfl), (Nat.le_of_ble_eq_true rfl)⟩) 10 5 rfl rfl rfl hl.1 rfl (Nat.le_of_ble_eq_true rfl) dX7_fish_14 ⟨(Nat.le_of_ble_eq_true rfl), (Nat.le_of_ble_eq_true rfl)⟩ rfl (fun H locs hP hD hS => ?_)
    obtain ⟨h0, h1, h2⟩ := o3 h
    exact eI hx hb hr hlk hP hS dX7_fish_17 (Nat.le_of_ble_eq_true rfl) (Nat.le_of_ble_eq_true rfl) h0 (by rw [h1, h2])
noncomputable def fX7_audit_B46 (p0 : Int32) (x3_8 : Int32) (T_8 : Nat → Nat → Int32) (M_8 : Nat → Nat → Int32) : Option ((Int32 × (Nat → Nat → Int32) × (Nat → Nat → Int32)) ⊕ (Int32 × (Nat → Nat → Int32) × (Nat → Nat → Int32))) := if 6 ≤ x3_8 then (some (.inr (x3_8, T_8, M_8))) else (gd (vp_in x3_8 6) (gd (vp_in ((6 * p0) + x3_8) 30) (gd (vp_in x3_8 6) (lt_ (uG M_8 3 (upd (M_8 3) (Int32.toNatClampNeg x3_8) ((M_8 3 (Int32.toNatClampNeg x3_8)) + (T_8 0 (Int32.toNatClampNeg ((6 * p0) + x3_8)))))) (fun M_13 => gd (vp_in ((6 * p0) + x3_8) 30) (lt_ (uG T_8 0 (upd (T_8 0) (Int32.toNatClampNeg ((6 * p0) + x3_8)) 0)) (fun T_15 => some (.inl (x3_8 + 1, T_15, M_13)))))))))
noncomputable def fX7_audit (T : Nat → Nat → Int32) (M : Nat → Nat → Int32) (k : Nat → Int32) (p0 : Int32) : Option (Int32 × (Nat → Nat → Int32) × (Nat → Nat → Int32) × (Nat → Int32)) := lt_ (uS k 0 0) (fun k_1 => if (fX7_isLayer p0) = 0 then (b2 (fX7_no k_1 1) (fun r_16 k_17 => some (r_16, T, M, k_17))) else (Option.bind (fX6_coins T p0) (fun r_3 => Option.bind (fX6_worth T M p0) (fun r_5 => lt_ (uS k_1 3 ((k_1 3) + r_5)) (fun k_7 => b3 (lp (fun s => fX7_audit_B46 p0 s.1 s.2.1 s.2.2) 7 (0, T, M)) (fun z3_8 Tz_8 Mz_8 => some (r_3, Tz_8, Mz_8, k_7)))))))
set_option maxHeartbeats 4000000 in
set_option maxRecDepth 100000 in
theorem c_X7_audit (l : Launch) (D : va_G) (cI cJ : ClassId) (q u o : Nat → Nat) (T : Nat → Nat → Int32) (t : Nat → Int32) (M : Nat → Nat → Int32) (k : Nat → Int32) (V : Nat → Nat → Int32) (v : Nat → Int32) (p0 : Int32) (r' : Int32) (T' : Nat → Nat → Int32) (M' : Nat → Nat → Int32) (k' : Nat → Int32) (rs : va_W) (h : fX7_audit T M k p0 = some (r', T', M', k')) : Ci l yX7_audit wsX7_audit ({ frames := 2, cells := 0, slots := 0, locals := 42 } : Room) D cI cJ ([.ref (o 0), .int p0] : List Value) (ms cI q o T t ++ (mo cI o (q 0) (u 0) M k ++ (ms cI u o V v ++ rs))) r' (ms cI q o T' t ++ (mo cI o (q 0) (u 0) M' k' ++ (ms cI u o V v ++ rs))) := by
  refine Ci.mk (cc := cX7_audit) (maxL := 4) (ret := (some .int)) (by decide) rfl (Nat.le_of_ble_eq_true rfl) ?_
  intro p e s m below meth c A ls B hr hlk hK hN hA hP hD hl
  obtain ⟨hx, hb, hml, hown, hts⟩ := id B
  have hi_X6 : ∀ w ∈ wsX60, w ∈ wsX7_audit := fun _ h => List.mem_cons_of_mem _ (List.mem_append_left _ (List.mem_append_right _ (h)))
  have hi_X7 : ∀ w ∈ wsX70, w ∈ wsX7_audit := fun _ h => List.mem_cons_of_mem _ (List.mem_append_left _ (List.mem_append_left _ (List.mem_append_right _ (h))))
  have hS : va_S A s.heap s.heap [] := va_S.rf
  have hl : lv_has ls 4 [(0, .ref (o 0)), (1, .int p0)] := hl
  unfold fX7_audit at h
  refine lv_aload_n hx hb dX7_audit_0 rfl (lv_at hl 0 rfl) ?_
  refine lv_iconst (v := 0) hx hb dX7_audit_1 (by decide) ?_
  refine va_put (D := D) (ci := 10) (v := .int 0) (ty := .int) (C := RX7) (T := TX7) (N := 15) hx hb hts hi_X7 tyX7 tyX7_ok nmX7 hown hK hP hD hS 5 rfl rfl 0 (by decide) (hts (.fieldLink RX7 46 "WishWellModel" "thrown" "I") (List.mem_of_getElem? (i := 1) rfl)) (fun _ h9 => h9) rfl (by decide +kernel) rfl rfl (Nat.le_of_ble_eq_true rfl) dX7_audit_2 (fun H locs hP hD hS => ?_)
  obtain ⟨k_1, ek_1, h⟩ := lt_I h
  have hP : va_P D vwCl (ms cI q o T t ++ (mo cI o (q 0) (u 0) M k_1 ++ (ms cI u o V v ++ rs))) H := by rw [ek_1]; exact hP
  have hD : va_D A (ms cI q o T t ++ (mo cI o (q 0) (u 0) M k_1 ++ (ms cI u o V v ++ rs))) := by rw [ek_1]; exact hD
  refine lv_iload_n hx hb dX7_audit_5 rfl (lv_at hl 1 rfl) ?_
  refine kSi (As := [.int p0]) (rest := []) B hK hN hP hD hS hA (c_X7_isLayer l D cI cJ  p0 (ms cI q o T t ++ (mo cI o (q 0) (u 0) M k_1 ++ (ms cI u o V v ++ rs))) _ rfl) (va_cwS 1 hts gX7_audit_X7_isLayer rfl rfl rfl (by decide +kernel) ⟨(Nat.le_of_ble_eq_true rfl), (Nat.le_of_ble_eq_true rfl)⟩) rfl hl.1 rfl (Nat.le_of_ble_eq_true rfl) dX7_audit_6 ⟨(Nat.le_of_ble_eq_true rfl), (Nat.le_of_ble_eq_true rfl)⟩ rfl (fun H locs hP hD hS => ?_)
  refine lv_if_ne (tgt := 18) hx hb dX7_audit_9 (by decide) (fun c_2 => ?_) (fun c_2 => ?_)
  · have h := in_ h c_2
    refine lv_aload_n hx hb dX7_audit_18 rfl (lv_at hl 0 rfl) ?_
    refine va_get (ci := 10) (v := .ref (q 0)) (C := RX7) (T := TX7) (N := 15) hx hb hts hi_X7 hown hK hP 5 rfl rfl 13 (by decide) (hts (.fieldLink RX7 39 "WishWellModel" "s" "LWishWellModel$State;") (List.mem_of_getElem? (i := 2) rfl)) (fun _ h9 => h9) rfl dX7_audit_19 ?_
    refine lv_iload_n hx hb dX7_audit_22 rfl (lv_at hl 1 rfl) ?_
    obtain ⟨r_3, hx_4, h⟩ := bd_I h
    refine kVi (As := [.int p0]) (rest := []) B hK hN hP hD hS hA (c_X6_coins l D cI cJ q o (q 0) (u 0) T t M k_1 p0 r_3 (ms cI u o V v ++ rs) hx_4) (cwV 1 hts gX7_audit_X6_coins rfl rfl rfl (by decide +kernel) ⟨(Nat.le_of_ble_eq_true rfl), (Nat.le_of_ble_eq_true rfl)⟩) 9 0 rfl rfl rfl hl.1 rfl (Nat.le_of_ble_eq_true rfl) dX7_audit_23 ⟨(Nat.le_of_ble_eq_true rfl), (Nat.le_of_ble_eq_true rfl)⟩ rfl (fun H locs hP hD hS => ?_)
    refine lv_istore_n (lv' := [(2, .int r_3), (0, .ref (o 0)), (1, .int p0)]) hx hb dX7_audit_26 rfl hl (by decide) rfl (fun ls hl => ?_)
    refine lv_aload_n hx hb dX7_audit_27 rfl (lv_at hl 1 rfl) ?_
    refine lv_dup hx hb dX7_audit_28 rfl ?_
    refine va_get (ci := 10) (v := .int (k_1 3)) (C := RX7) (T := TX7) (N := 15) hx hb hts hi_X7 hown hK hP 5 rfl rfl 11 (by decide) (hts (.fieldLink RX7 105 "WishWellModel" "purse" "I") (List.mem_of_getElem? (i := 3) rfl)) (fun _ h9 => h9) rfl dX7_audit_29 ?_
    refine lv_aload_n hx hb dX7_audit_32 rfl (lv_at hl 1 rfl) ?_
    refine va_get (ci := 10) (v := .ref (q 0)) (C := RX7) (T := TX7) (N := 15) hx hb hts hi_X7 hown hK hP 5 rfl rfl 13 (by decide) (hts (.fieldLink RX7 39 "WishWellModel" "s" "LWishWellModel$State;") (List.mem_of_getElem? (i := 2) rfl)) (fun _ h9 => h9) rfl dX7_audit_33 ?_
    refine lv_iload_n hx hb dX7_audit_36 rfl (lv_at hl 2 rfl) ?_
    obtain ⟨r_5, hx_6, h⟩ := bd_I h
    refine kVi (As := [.int p0]) (rest := [.int (k_1 3), .ref (o 0)]) B hK hN hP hD hS hA (c_X6_worth l D cI cJ q o (q 0) (u 0) T t M k_1 p0 r_5 (ms cI u o V v ++ rs) hx_6) (cwV 1 hts gX7_audit_X6_worth rfl rfl rfl (by decide +kernel) ⟨(Nat.le_of_ble_eq_true rfl), (Nat.le_of_ble_eq_true rfl)⟩) 9 0 rfl rfl rfl hl.1 rfl (Nat.le_of_ble_eq_true rfl) dX7_audit_37 ⟨(Nat.le_of_ble_eq_true rfl), (Nat.le_of_ble_eq_true rfl)⟩ rfl (fun H locs hP hD hS => ?_)
    refine lv_iadd hx hb dX7_audit_40 ?_
    refine va_put (D := D) (ci := 10) (v := .int ((k_1 3) + r_5)) (ty := .int) (C := RX7) (T := TX7) (N := 15) hx hb hts hi_X7 tyX7 tyX7_ok nmX7 hown hK hP hD hS 5 rfl rfl 11 (by decide) (hts (.fieldLink RX7 105 "WishWellModel" "purse" "I") (List.mem_of_getElem? (i := 3) rfl)) (fun _ h9 => h9) rfl (by decide +kernel) rfl rfl (Nat.le_of_ble_eq_true rfl) dX7_audit_41 (fun H locs hP hD hS => ?_)
    obtain ⟨k_7, ek_7, h⟩ := lt_I h
    have hP : va_P D vwCl (ms cI q o T t ++ (mo cI o (q 0) (u 0) M k_7 ++ (ms cI u o V v ++ rs))) H := by rw [ek_7]; exact hP
    have hD : va_D A (ms cI q o T t ++ (mo cI o (q 0) (u 0) M k_7 ++ (ms cI u o V v ++ rs))) := by rw [ek_7]; exact hD
    refine lv_iconst (v := 0) hx hb dX7_audit_44 (by decide) ?_
    refine lv_istore_n (lv' := [(3, .int 0), (2, .int r_3), (0, .ref (o 0)), (1, .int p0)]) hx hb dX7_audit_45 rfl hl (by decide) rfl (fun ls hl => ?_)
    have L46_8 : ∀ (n : Nat) (x3_8 : Int32) (T_8 : Nat → Nat → Int32) (M_8 : Nat → Nat → Int32) (z3_8 : Int32) (Tz_8 : Nat → Nat → Int32) (Mz_8 : Nat → Nat → Int32) (_ : lp (fun s => fX7_audit_B46 p0 s.1 s.2.1 s.2.2) n (x3_8, T_8, M_8) = some (z3_8, Tz_8, Mz_8)) (_ : ∀ (H : Heap) (locs : List Loc) (ls : Array Slot), va_P D vwCl (ms cI q o Tz_8 t ++ (mo cI o (q 0) (u 0) Mz_8 k_7 ++ (ms cI u o V v ++ rs))) H → va_D A (ms cI q o Tz_8 t ++ (mo cI o (q 0) (u 0) Mz_8 k_7 ++ (ms cI u o V v ++ rs))) → va_S A s.heap H locs → lv_has ls 4 [(0, .ref (o 0)), (1, .int p0), (2, .int r_3), (3, .int z3_8)] → W p l e (headSpec wsX7_audit ({ frames := 2, cells := 0, slots := 0, locals := 42 } : Room)).room s m ([.ref (o 0), .int p0] : List Value).toArray below meth c H locs (0) (0) (QI below D (ms cI q o T' t ++ (mo cI o (q 0) (u 0) M' k' ++ (ms cI u o V v ++ rs))) r' ([.ref (o 0), .int p0] : List Value).toArray s 0 0 A) (F0 m 96 ls [])) (H : Heap) (locs : List Loc) (ls : Array Slot), va_P D vwCl (ms cI q o T_8 t ++ (mo cI o (q 0) (u 0) M_8 k_7 ++ (ms cI u o V v ++ rs))) H → va_D A (ms cI q o T_8 t ++ (mo cI o (q 0) (u 0) M_8 k_7 ++ (ms cI u o V v ++ rs))) → va_S A s.heap H locs → lv_has ls 4 [(0, .ref (o 0)), (1, .int p0), (2, .int r_3), (3, .int x3_8)] → W p l e (headSpec wsX7_audit ({ frames := 2, cells := 0, slots := 0, locals := 42 } : Room)).room s m ([.ref (o 0), .int p0] : List Value).toArray below meth c H locs (0) (0) (QI below D (ms cI q o T' t ++ (mo cI o (q 0) (u 0) M' k' ++ (ms cI u o V v ++ rs))) r' ([.ref (o 0), .int p0] : List Value).toArray s 0 0 A) (F0 m 46 ls []) := by
      intro n
      induction n with
      | zero => intro x3_8 T_8 M_8 z3_8 Tz_8 Mz_8 h; exact (lp_0 h).elim
      | succ n ih =>
        intro x3_8 T_8 M_8 z3_8 Tz_8 Mz_8 h kk H locs ls hP hD hS hl
        obtain ⟨z, h, hz⟩ := lp_walk h
        have h : fX7_audit_B46 p0 x3_8 T_8 M_8 = some z := h
        unfold fX7_audit_B46 at h
        refine lv_iload_n hx hb dX7_audit_46 rfl (lv_at hl 3 rfl) ?_
        refine lv_bipush (v := 6) hx hb dX7_audit_47 (by decide) ?_
        refine lv_icmp_ge (tgt := 96) hx hb dX7_audit_49 (by decide) (fun c_9 => ?_) (fun c_9 => ?_)
        · have h := ip_ h c_9
          cases lz_e h hz
          exact kk _ _ _ hP hD hS (lv_sub hl [0, 1, 2, 3] rfl)
        · have h := in_ h c_9
          refine lv_aload_n hx hb dX7_audit_52 rfl (lv_at hl 0 rfl) ?_
          refine va_get (ci := 10) (v := .ref (o 4)) (C := RX7) (T := TX7) (N := 15) hx hb hts hi_X7 hown hK hP 5 rfl rfl 5 (by decide) (hts (.fieldLink RX7 19 "WishWellModel" "audited" "[I") (List.mem_of_getElem? (i := 4) rfl)) (fun _ h9 => h9) rfl dX7_audit_53 ?_
          refine lv_iload_n hx hb dX7_audit_56 rfl (lv_at hl 3 rfl) ?_
          refine lv_dup2_11 hx hb dX7_audit_57 rfl rfl ?_
          obtain ⟨c_10, h⟩ := gd_I h
          refine va_iald hx hb hK hP 9 0 rfl rfl c_10 dX7_audit_58 ?_
          refine lv_aload_n hx hb dX7_audit_59 rfl (lv_at hl 0 rfl) ?_
          refine va_get (ci := 10) (v := .ref (q 0)) (C := RX7) (T := TX7) (N := 15) hx hb hts hi_X7 hown hK hP 5 rfl rfl 13 (by decide) (hts (.fieldLink RX7 39 "WishWellModel" "s" "LWishWellModel$State;") (List.mem_of_getElem? (i := 2) rfl)) (fun _ h9 => h9) rfl dX7_audit_60 ?_
          refine va_getN (own := RX7) (ref := "WishWellModel$State") (host := "WishWellModel") (index := 93) (ci := 9) (v := .ref (q 1)) (C := RX6) (T := TX6) (N := 8) hx hb hts hi_X6 hown hK hP 0 rfl rfl 3 (by decide) (nF_3 hN) (fun _ h9 => h9) rfl dX7_audit_63 ?_
          refine lv_bipush (v := 6) hx hb dX7_audit_66 (by decide) ?_
          refine lv_iload_n hx hb dX7_audit_68 rfl (lv_at hl 1 rfl) ?_
          refine lv_imul hx hb dX7_audit_69 ?_
          refine lv_iload_n hx hb dX7_audit_70 rfl (lv_at hl 3 rfl) ?_
          refine lv_iadd hx hb dX7_audit_71 ?_
          obtain ⟨c_11, h⟩ := gd_I h
          refine va_iald hx hb hK hP 1 0 rfl rfl c_11 dX7_audit_72 ?_
          refine lv_iadd hx hb dX7_audit_73 ?_
          obtain ⟨c_12, h⟩ := gd_I h
          refine va_iast hx hb hK hP hD hS 9 0 rfl rfl c_12 dX7_audit_74 (fun H locs hP hD hS => ?_)
          obtain ⟨M_13, eM_13, h⟩ := lt_I h
          have hP : va_P D vwCl (ms cI q o T_8 t ++ (mo cI o (q 0) (u 0) M_13 k_7 ++ (ms cI u o V v ++ rs))) H := by rw [eM_13]; exact hP
          have hD : va_D A (ms cI q o T_8 t ++ (mo cI o (q 0) (u 0) M_13 k_7 ++ (ms cI u o V v ++ rs))) := by rw [eM_13]; exact hD
          refine lv_aload_n hx hb dX7_audit_75 rfl (lv_at hl 0 rfl) ?_
          refine va_get (ci := 10) (v := .ref (q 0)) (C := RX7) (T := TX7) (N := 15) hx hb hts hi_X7 hown hK hP 5 rfl rfl 13 (by decide) (hts (.fieldLink RX7 39 "WishWellModel" "s" "LWishWellModel$State;") (List.mem_of_getElem? (i := 2) rfl)) (fun _ h9 => h9) rfl dX7_audit_76 ?_
          refine va_getN (own := RX7) (ref := "WishWellModel$State") (host := "WishWellModel") (index := 93) (ci := 9) (v := .ref (q 1)) (C := RX6) (T := TX6) (N := 8) hx hb hts hi_X6 hown hK hP 0 rfl rfl 3 (by decide) (nF_3 hN) (fun _ h9 => h9) rfl dX7_audit_79 ?_
          refine lv_bipush (v := 6) hx hb dX7_audit_82 (by decide) ?_
          refine lv_iload_n hx hb dX7_audit_84 rfl (lv_at hl 1 rfl) ?_
          refine lv_imul hx hb dX7_audit_85 ?_
          refine lv_iload_n hx hb dX7_audit_86 rfl (lv_at hl 3 rfl) ?_
          refine lv_iadd hx hb dX7_audit_87 ?_
          refine lv_iconst (v := 0) hx hb dX7_audit_88 (by decide) ?_
          obtain ⟨c_14, h⟩ := gd_I h
          refine va_iast hx hb hK hP hD hS 1 0 rfl rfl c_14 dX7_audit_89 (fun H locs hP hD hS => ?_)
          obtain ⟨T_15, eT_15, h⟩ := lt_I h
          have hP : va_P D vwCl (ms cI q o T_15 t ++ (mo cI o (q 0) (u 0) M_13 k_7 ++ (ms cI u o V v ++ rs))) H := by rw [eT_15]; exact hP
          have hD : va_D A (ms cI q o T_15 t ++ (mo cI o (q 0) (u 0) M_13 k_7 ++ (ms cI u o V v ++ rs))) := by rw [eT_15]; exact hD
          refine lv_iinc (v := x3_8 + 1) (lv' := [(3, .int (x3_8 + 1)), (0, .ref (o 0)), (1, .int p0), (2, .int r_3)]) hx hb dX7_audit_90 hl (k := 3) rfl rfl (by decide) rfl (fun ls hl => ?_)
          refine lv_goto (tgt := 46) hx hb dX7_audit_93 (by decide) ?_
          exact ih (x3_8 + 1) T_15 M_13 _ _ _ (lz_c h hz) kk _ _ _ hP hD hS (lv_sub hl [1, 2, 3, 0] rfl)
    obtain ⟨z3_8, Tz_8, Mz_8, hl_8, h⟩ := b3_I h
    refine L46_8 7 0 T M z3_8 Tz_8 Mz_8 hl_8 (fun H locs ls hP hD hS hl => ?_) _ _ _ hP hD hS (lv_sub hl [2, 3, 1, 0] rfl)
    refine lv_iload_n hx hb dX7_audit_96 rfl (lv_at hl 2 rfl) ?_
    obtain ⟨h0, h1, h2, h3⟩ := o4 h
    exact eI hx hb hr hlk hP hS dX7_audit_97 (Nat.le_of_ble_eq_true rfl) (Nat.le_of_ble_eq_true rfl) h0 (by rw [h1, h2, h3])
  · have h := ip_ h c_2
    refine lv_aload_n hx hb dX7_audit_12 rfl (lv_at hl 0 rfl) ?_
    refine lv_iconst (v := 1) hx hb dX7_audit_13 (by decide) ?_
    obtain ⟨r_16, k_17, hx_18, h⟩ := b2_I h
    refine kVi (As := [.int 1]) (rest := []) B hK hN hP hD hS hA (c_X7_no l D cI cJ q u o T t M k_1 V v 1 r_16 k_17 rs hx_18) (cwV 1 hts gX7_audit_X7_no rfl rfl rfl (by decide +kernel) ⟨(Nat.le_of_ble_eq_true rfl), (Nat.le_of_ble_eq_true rfl)⟩) 10 5 rfl rfl rfl hl.1 rfl (Nat.le_of_ble_eq_true rfl) dX7_audit_14 ⟨(Nat.le_of_ble_eq_true rfl), (Nat.le_of_ble_eq_true rfl)⟩ rfl (fun H locs hP hD hS => ?_)
    obtain ⟨h0, h1, h2, h3⟩ := o4 h
    exact eI hx hb hr hlk hP hS dX7_audit_17 (Nat.le_of_ble_eq_true rfl) (Nat.le_of_ble_eq_true rfl) h0 (by rw [h1, h2, h3])
noncomputable def fX7_missed (T : Nat → Nat → Int32) (M : Nat → Nat → Int32) (p0 : Int32) : Option (Int32) := gd (vp_in p0 6) (Option.bind (fX6_all T p0) (fun r_2 => gd (vp_in p0 6) (gd (vp_in p0 6) (some ((((T 1 (Int32.toNatClampNeg p0)) - r_2) - (M 3 (Int32.toNatClampNeg p0))) - (M 4 (Int32.toNatClampNeg p0)))))))
set_option maxHeartbeats 4000000 in
set_option maxRecDepth 100000 in
theorem c_X7_missed (l : Launch) (D : va_G) (cI cJ : ClassId) (q u o : Nat → Nat) (T : Nat → Nat → Int32) (t : Nat → Int32) (M : Nat → Nat → Int32) (k : Nat → Int32) (V : Nat → Nat → Int32) (v : Nat → Int32) (p0 : Int32) (r' : Int32) (rs : va_W) (h : fX7_missed T M p0 = some r') : Ci l yX7_missed wsX7_missed ({ frames := 1, cells := 0, slots := 0, locals := 23 } : Room) D cI cJ ([.ref (o 0), .int p0] : List Value) (ms cI q o T t ++ (mo cI o (q 0) (u 0) M k ++ (ms cI u o V v ++ rs))) r' (ms cI q o T t ++ (mo cI o (q 0) (u 0) M k ++ (ms cI u o V v ++ rs))) := by
  refine Ci.mk (cc := cX7_missed) (maxL := 2) (ret := (some .int)) (by decide) rfl (Nat.le_of_ble_eq_true rfl) ?_
  intro p e s m below meth c A ls B hr hlk hK hN hA hP hD hl
  obtain ⟨hx, hb, hml, hown, hts⟩ := id B
  have hi_X6 : ∀ w ∈ wsX60, w ∈ wsX7_missed := fun _ h => List.mem_cons_of_mem _ (List.mem_append_left _ (List.mem_append_right _ (h)))
  have hi_X7 : ∀ w ∈ wsX70, w ∈ wsX7_missed := fun _ h => List.mem_cons_of_mem _ (List.mem_append_left _ (List.mem_append_left _ (List.mem_append_right _ (h))))
  have hS : va_S A s.heap s.heap [] := va_S.rf
  have hl : lv_has ls 2 [(0, .ref (o 0)), (1, .int p0)] := hl
  unfold fX7_missed at h
  refine lv_aload_n hx hb dX7_missed_0 rfl (lv_at hl 0 rfl) ?_
  refine va_get (ci := 10) (v := .ref (q 0)) (C := RX7) (T := TX7) (N := 15) hx hb hts hi_X7 hown hK hP 5 rfl rfl 13 (by decide) (hts (.fieldLink RX7 39 "WishWellModel" "s" "LWishWellModel$State;") (List.mem_of_getElem? (i := 1) rfl)) (fun _ h9 => h9) rfl dX7_missed_1 ?_
  refine va_getN (own := RX7) (ref := "WishWellModel$State") (host := "WishWellModel") (index := 111) (ci := 9) (v := .ref (q 2)) (C := RX6) (T := TX6) (N := 8) hx hb hts hi_X6 hown hK hP 0 rfl rfl 4 (by decide) (nF_4 hN) (fun _ h9 => h9) rfl dX7_missed_4 ?_
  refine lv_iload_n hx hb dX7_missed_7 rfl (lv_at hl 1 rfl) ?_
  obtain ⟨c_1, h⟩ := gd_I h
  refine va_iald hx hb hK hP 2 0 rfl rfl c_1 dX7_missed_8 ?_
  refine lv_aload_n hx hb dX7_missed_9 rfl (lv_at hl 0 rfl) ?_
  refine va_get (ci := 10) (v := .ref (q 0)) (C := RX7) (T := TX7) (N := 15) hx hb hts hi_X7 hown hK hP 5 rfl rfl 13 (by decide) (hts (.fieldLink RX7 39 "WishWellModel" "s" "LWishWellModel$State;") (List.mem_of_getElem? (i := 1) rfl)) (fun _ h9 => h9) rfl dX7_missed_10 ?_
  refine lv_iload_n hx hb dX7_missed_13 rfl (lv_at hl 1 rfl) ?_
  obtain ⟨r_2, hx_3, h⟩ := bd_I h
  refine kVi (As := [.int p0]) (rest := [.int (T 1 (Int32.toNatClampNeg p0))]) B hK hN hP hD hS hA (c_X6_all l D cI cJ q o (q 0) (u 0) T t M k p0 r_2 (ms cI u o V v ++ rs) hx_3) (cwV 1 hts gX7_missed_X6_all rfl rfl rfl (by decide +kernel) ⟨(Nat.le_of_ble_eq_true rfl), (Nat.le_of_ble_eq_true rfl)⟩) 9 0 rfl rfl rfl hl.1 rfl (Nat.le_of_ble_eq_true rfl) dX7_missed_14 ⟨(Nat.le_of_ble_eq_true rfl), (Nat.le_of_ble_eq_true rfl)⟩ rfl (fun H locs hP hD hS => ?_)
  refine lv_isub hx hb dX7_missed_17 ?_
  refine lv_aload_n hx hb dX7_missed_18 rfl (lv_at hl 0 rfl) ?_
  refine va_get (ci := 10) (v := .ref (o 4)) (C := RX7) (T := TX7) (N := 15) hx hb hts hi_X7 hown hK hP 5 rfl rfl 5 (by decide) (hts (.fieldLink RX7 19 "WishWellModel" "audited" "[I") (List.mem_of_getElem? (i := 2) rfl)) (fun _ h9 => h9) rfl dX7_missed_19 ?_
  refine lv_iload_n hx hb dX7_missed_22 rfl (lv_at hl 1 rfl) ?_
  obtain ⟨c_4, h⟩ := gd_I h
  refine va_iald hx hb hK hP 9 0 rfl rfl c_4 dX7_missed_23 ?_
  refine lv_isub hx hb dX7_missed_24 ?_
  refine lv_aload_n hx hb dX7_missed_25 rfl (lv_at hl 0 rfl) ?_
  refine va_get (ci := 10) (v := .ref (o 5)) (C := RX7) (T := TX7) (N := 15) hx hb hts hi_X7 hown hK hP 5 rfl rfl 6 (by decide) (hts (.fieldLink RX7 22 "WishWellModel" "back" "[I") (List.mem_of_getElem? (i := 3) rfl)) (fun _ h9 => h9) rfl dX7_missed_26 ?_
  refine lv_iload_n hx hb dX7_missed_29 rfl (lv_at hl 1 rfl) ?_
  obtain ⟨c_5, h⟩ := gd_I h
  refine va_iald hx hb hK hP 10 0 rfl rfl c_5 dX7_missed_30 ?_
  refine lv_isub hx hb dX7_missed_31 ?_
  have h0 := o1 h
  exact eI hx hb hr hlk hP hS dX7_missed_32 (Nat.le_of_ble_eq_true rfl) (Nat.le_of_ble_eq_true rfl) h0 rfl
noncomputable def fX7_missing (T : Nat → Nat → Int32) (M : Nat → Nat → Int32) (k : Nat → Int32) (p0 : Int32) : Option (Int32 × (Nat → Int32)) := lt_ (uS k 0 0) (fun k_1 => if (fX7_isLand k_1 p0) = 0 then (b2 (fX7_no k_1 1) (fun r_3 k_4 => some (r_3, k_4))) else (Option.bind (fX7_missed T M p0) (fun r_6 => some (r_6, k_1))))
set_option maxHeartbeats 4000000 in
set_option maxRecDepth 100000 in
theorem c_X7_missing (l : Launch) (D : va_G) (cI cJ : ClassId) (q u o : Nat → Nat) (T : Nat → Nat → Int32) (t : Nat → Int32) (M : Nat → Nat → Int32) (k : Nat → Int32) (V : Nat → Nat → Int32) (v : Nat → Int32) (p0 : Int32) (r' : Int32) (k' : Nat → Int32) (rs : va_W) (h : fX7_missing T M k p0 = some (r', k')) : Ci l yX7_missing wsX7_missing ({ frames := 2, cells := 0, slots := 0, locals := 44 } : Room) D cI cJ ([.ref (o 0), .int p0] : List Value) (ms cI q o T t ++ (mo cI o (q 0) (u 0) M k ++ (ms cI u o V v ++ rs))) r' (ms cI q o T t ++ (mo cI o (q 0) (u 0) M k' ++ (ms cI u o V v ++ rs))) := by
  refine Ci.mk (cc := cX7_missing) (maxL := 2) (ret := (some .int)) (by decide) rfl (Nat.le_of_ble_eq_true rfl) ?_
  intro p e s m below meth c A ls B hr hlk hK hN hA hP hD hl
  obtain ⟨hx, hb, hml, hown, hts⟩ := id B
  have hi_X7 : ∀ w ∈ wsX70, w ∈ wsX7_missing := fun _ h => List.mem_cons_of_mem _ (List.mem_append_left _ (List.mem_append_left _ (List.mem_append_right _ (h))))
  have hS : va_S A s.heap s.heap [] := va_S.rf
  have hl : lv_has ls 2 [(0, .ref (o 0)), (1, .int p0)] := hl
  unfold fX7_missing at h
  refine lv_aload_n hx hb dX7_missing_0 rfl (lv_at hl 0 rfl) ?_
  refine lv_iconst (v := 0) hx hb dX7_missing_1 (by decide) ?_
  refine va_put (D := D) (ci := 10) (v := .int 0) (ty := .int) (C := RX7) (T := TX7) (N := 15) hx hb hts hi_X7 tyX7 tyX7_ok nmX7 hown hK hP hD hS 5 rfl rfl 0 (by decide) (hts (.fieldLink RX7 46 "WishWellModel" "thrown" "I") (List.mem_of_getElem? (i := 1) rfl)) (fun _ h9 => h9) rfl (by decide +kernel) rfl rfl (Nat.le_of_ble_eq_true rfl) dX7_missing_2 (fun H locs hP hD hS => ?_)
  obtain ⟨k_1, ek_1, h⟩ := lt_I h
  have hP : va_P D vwCl (ms cI q o T t ++ (mo cI o (q 0) (u 0) M k_1 ++ (ms cI u o V v ++ rs))) H := by rw [ek_1]; exact hP
  have hD : va_D A (ms cI q o T t ++ (mo cI o (q 0) (u 0) M k_1 ++ (ms cI u o V v ++ rs))) := by rw [ek_1]; exact hD
  refine lv_aload_n hx hb dX7_missing_5 rfl (lv_at hl 0 rfl) ?_
  refine lv_iload_n hx hb dX7_missing_6 rfl (lv_at hl 1 rfl) ?_
  refine kVi (As := [.int p0]) (rest := []) B hK hN hP hD hS hA (c_X7_isLand l D cI cJ q u o T t M k_1 V v p0 rs _ rfl) (cwV 1 hts gX7_missing_X7_isLand rfl rfl rfl (by decide +kernel) ⟨(Nat.le_of_ble_eq_true rfl), (Nat.le_of_ble_eq_true rfl)⟩) 10 5 rfl rfl rfl hl.1 rfl (Nat.le_of_ble_eq_true rfl) dX7_missing_7 ⟨(Nat.le_of_ble_eq_true rfl), (Nat.le_of_ble_eq_true rfl)⟩ rfl (fun H locs hP hD hS => ?_)
  refine lv_if_eq (tgt := 21) hx hb dX7_missing_10 (by decide) (fun c_2 => ?_) (fun c_2 => ?_)
  · have h := ip_ h c_2
    refine lv_aload_n hx hb dX7_missing_21 rfl (lv_at hl 0 rfl) ?_
    refine lv_iconst (v := 1) hx hb dX7_missing_22 (by decide) ?_
    obtain ⟨r_3, k_4, hx_5, h⟩ := b2_I h
    refine kVi (As := [.int 1]) (rest := []) B hK hN hP hD hS hA (c_X7_no l D cI cJ q u o T t M k_1 V v 1 r_3 k_4 rs hx_5) (cwV 1 hts gX7_missing_X7_no rfl rfl rfl (by decide +kernel) ⟨(Nat.le_of_ble_eq_true rfl), (Nat.le_of_ble_eq_true rfl)⟩) 10 5 rfl rfl rfl hl.1 rfl (Nat.le_of_ble_eq_true rfl) dX7_missing_23 ⟨(Nat.le_of_ble_eq_true rfl), (Nat.le_of_ble_eq_true rfl)⟩ rfl (fun H locs hP hD hS => ?_)
    obtain ⟨h0, h1⟩ := o2 h
    exact eI hx hb hr hlk hP hS dX7_missing_26 (Nat.le_of_ble_eq_true rfl) (Nat.le_of_ble_eq_true rfl) h0 (by rw [h1])
  · have h := in_ h c_2
    refine lv_aload_n hx hb dX7_missing_13 rfl (lv_at hl 0 rfl) ?_
    refine lv_iload_n hx hb dX7_missing_14 rfl (lv_at hl 1 rfl) ?_
    obtain ⟨r_6, hx_7, h⟩ := bd_I h
    refine kVi (As := [.int p0]) (rest := []) B hK hN hP hD hS hA (c_X7_missed l D cI cJ q u o T t M k_1 V v p0 r_6 rs hx_7) (cwV 1 hts gX7_missing_X7_missed rfl rfl rfl (by decide +kernel) ⟨(Nat.le_of_ble_eq_true rfl), (Nat.le_of_ble_eq_true rfl)⟩) 10 5 rfl rfl rfl hl.1 rfl (Nat.le_of_ble_eq_true rfl) dX7_missing_15 ⟨(Nat.le_of_ble_eq_true rfl), (Nat.le_of_ble_eq_true rfl)⟩ rfl (fun H locs hP hD hS => ?_)
    refine lv_goto (tgt := 26) hx hb dX7_missing_18 (by decide) ?_
    obtain ⟨h0, h1⟩ := o2 h
    exact eI hx hb hr hlk hP hS dX7_missing_26 (Nat.le_of_ble_eq_true rfl) (Nat.le_of_ble_eq_true rfl) h0 (by rw [h1])
noncomputable def fX7_landTold (T : Nat → Nat → Int32) (M : Nat → Nat → Int32) (p0 : Int32) (p1 : Int32) : Option (Int32) := lt_ (fun _ => 0 : Nat → Int32) (fun N1_2 => gd (vp_in p0 6) (gd (vp_in 0 5) (lt_ (upd N1_2 (Int32.toNatClampNeg 0) (M 0 (Int32.toNatClampNeg p0))) (fun N1_5 => gd (vp_in p0 6) (gd (vp_in 1 5) (lt_ (upd N1_5 (Int32.toNatClampNeg 1) (M 1 (Int32.toNatClampNeg p0))) (fun N1_8 => gd (vp_in p0 6) (gd (vp_in 2 5) (lt_ (upd N1_8 (Int32.toNatClampNeg 2) (T 1 (Int32.toNatClampNeg p0))) (fun N1_11 => Option.bind (fX6_all T p0) (fun r_12 => gd (vp_in 3 5) (lt_ (upd N1_11 (Int32.toNatClampNeg 3) r_12) (fun N1_15 => gd (vp_in p0 6) (gd (vp_in 4 5) (lt_ (upd N1_15 (Int32.toNatClampNeg 4) (M 3 (Int32.toNatClampNeg p0))) (fun N1_18 => gd (vp_in p1 5) (some (N1_18 (Int32.toNatClampNeg p1)))))))))))))))))))
set_option maxHeartbeats 4000000 in
set_option maxRecDepth 100000 in
theorem c_X7_landTold (l : Launch) (D : va_G) (cI cJ : ClassId) (q u o : Nat → Nat) (T : Nat → Nat → Int32) (t : Nat → Int32) (M : Nat → Nat → Int32) (k : Nat → Int32) (V : Nat → Nat → Int32) (v : Nat → Int32) (p0 : Int32) (p1 : Int32) (r' : Int32) (rs : va_W) (h : fX7_landTold T M p0 p1 = some r') : Ci l yX7_landTold wsX7_landTold ({ frames := 1, cells := 1, slots := 5, locals := 23 } : Room) D cI cJ ([.ref (o 0), .int p0, .int p1] : List Value) (ms cI q o T t ++ (mo cI o (q 0) (u 0) M k ++ (ms cI u o V v ++ rs))) r' (ms cI q o T t ++ (mo cI o (q 0) (u 0) M k ++ (ms cI u o V v ++ rs))) := by
  refine Ci.mk (cc := cX7_landTold) (maxL := 4) (ret := (some .int)) (by decide) rfl (Nat.le_of_ble_eq_true rfl) ?_
  intro p e s m below meth c A ls B hr hlk hK hN hA hP hD hl
  obtain ⟨hx, hb, hml, hown, hts⟩ := id B
  have hi_X6 : ∀ w ∈ wsX60, w ∈ wsX7_landTold := fun _ h => List.mem_cons_of_mem _ (List.mem_append_left _ (List.mem_append_right _ (h)))
  have hi_X7 : ∀ w ∈ wsX70, w ∈ wsX7_landTold := fun _ h => List.mem_cons_of_mem _ (List.mem_append_left _ (List.mem_append_left _ (List.mem_append_right _ (h))))
  have hS : va_S A s.heap s.heap [] := va_S.rf
  have hl : lv_has ls 4 [(0, .ref (o 0)), (1, .int p0), (2, .int p1)] := hl
  unfold fX7_landTold at h
  refine lv_iconst (v := 5) hx hb dX7_landTold_0 (by decide) ?_
  refine va_newa (atype := .int) (n := 5) (N' := 5) (a0 := (5, .inl (fun _ => 0))) hx hb (hts (.arrayClass .int) (List.mem_of_getElem? (i := 1) rfl)) rfl hK hP hD hS hA (fun cA => rfl) (by decide) rfl (by decide) (Nat.le_of_ble_eq_true rfl) (Nat.le_of_ble_eq_true rfl) dX7_landTold_1 (fun q_1 cA_1 H hK' hP hD hS => ?_)
  have hP : va_P D vwCl (ms cI q o T t ++ (mo cI o (q 0) (u 0) M k ++ (ms cI u o V v ++ ((q_1, ai cA_1 5 (fun _ => 0)) :: rs)))) H := P_perm (pmx3 _ _ _ _ _) hP
  have hD : va_D A (ms cI q o T t ++ (mo cI o (q 0) (u 0) M k ++ (ms cI u o V v ++ ((q_1, ai cA_1 5 (fun _ => 0)) :: rs)))) := D_perm (pmx3 _ _ _ _ _) hD
  obtain ⟨N1_2, eN1_2, h⟩ := lt_I h
  have hP : va_P D vwCl (ms cI q o T t ++ (mo cI o (q 0) (u 0) M k ++ (ms cI u o V v ++ ((q_1, ai cA_1 5 N1_2) :: rs)))) H := by rw [eN1_2]; exact hP
  have hD : va_D A (ms cI q o T t ++ (mo cI o (q 0) (u 0) M k ++ (ms cI u o V v ++ ((q_1, ai cA_1 5 N1_2) :: rs)))) := by rw [eN1_2]; exact hD
  refine lv_dup hx hb dX7_landTold_3 rfl ?_
  refine lv_iconst (v := 0) hx hb dX7_landTold_4 (by decide) ?_
  refine lv_aload_n hx hb dX7_landTold_5 rfl (lv_at hl 0 rfl) ?_
  refine va_get (ci := 10) (v := .ref (o 1)) (C := RX7) (T := TX7) (N := 15) hx hb hts hi_X7 hown hK hP 5 rfl rfl 2 (by decide) (hts (.fieldLink RX7 9 "WishWellModel" "value" "[I") (List.mem_of_getElem? (i := 2) rfl)) (fun _ h9 => h9) rfl dX7_landTold_6 ?_
  refine lv_iload_n hx hb dX7_landTold_9 rfl (lv_at hl 1 rfl) ?_
  obtain ⟨c_3, h⟩ := gd_I h
  refine va_iald hx hb hK hP 6 0 rfl rfl c_3 dX7_landTold_10 ?_
  obtain ⟨c_4, h⟩ := gd_I h
  refine va_iast hx hb hK' hP hD hS 19 2 rfl rfl c_4 dX7_landTold_11 (fun H locs hP hD hS => ?_)
  obtain ⟨N1_5, eN1_5, h⟩ := lt_I h
  have hP : va_P D vwCl (ms cI q o T t ++ (mo cI o (q 0) (u 0) M k ++ (ms cI u o V v ++ ((q_1, ai cA_1 5 N1_5) :: rs)))) H := by rw [eN1_5]; exact hP
  have hD : va_D A (ms cI q o T t ++ (mo cI o (q 0) (u 0) M k ++ (ms cI u o V v ++ ((q_1, ai cA_1 5 N1_5) :: rs)))) := by rw [eN1_5]; exact hD
  refine lv_dup hx hb dX7_landTold_12 rfl ?_
  refine lv_iconst (v := 1) hx hb dX7_landTold_13 (by decide) ?_
  refine lv_aload_n hx hb dX7_landTold_14 rfl (lv_at hl 0 rfl) ?_
  refine va_get (ci := 10) (v := .ref (o 2)) (C := RX7) (T := TX7) (N := 15) hx hb hts hi_X7 hown hK hP 5 rfl rfl 3 (by decide) (hts (.fieldLink RX7 13 "WishWellModel" "weight" "[I") (List.mem_of_getElem? (i := 3) rfl)) (fun _ h9 => h9) rfl dX7_landTold_15 ?_
  refine lv_iload_n hx hb dX7_landTold_18 rfl (lv_at hl 1 rfl) ?_
  obtain ⟨c_6, h⟩ := gd_I h
  refine va_iald hx hb hK hP 7 0 rfl rfl c_6 dX7_landTold_19 ?_
  obtain ⟨c_7, h⟩ := gd_I h
  refine va_iast hx hb hK' hP hD hS 19 2 rfl rfl c_7 dX7_landTold_20 (fun H locs hP hD hS => ?_)
  obtain ⟨N1_8, eN1_8, h⟩ := lt_I h
  have hP : va_P D vwCl (ms cI q o T t ++ (mo cI o (q 0) (u 0) M k ++ (ms cI u o V v ++ ((q_1, ai cA_1 5 N1_8) :: rs)))) H := by rw [eN1_8]; exact hP
  have hD : va_D A (ms cI q o T t ++ (mo cI o (q 0) (u 0) M k ++ (ms cI u o V v ++ ((q_1, ai cA_1 5 N1_8) :: rs)))) := by rw [eN1_8]; exact hD
  refine lv_dup hx hb dX7_landTold_21 rfl ?_
  refine lv_iconst (v := 2) hx hb dX7_landTold_22 (by decide) ?_
  refine lv_aload_n hx hb dX7_landTold_23 rfl (lv_at hl 0 rfl) ?_
  refine va_get (ci := 10) (v := .ref (q 0)) (C := RX7) (T := TX7) (N := 15) hx hb hts hi_X7 hown hK hP 5 rfl rfl 13 (by decide) (hts (.fieldLink RX7 39 "WishWellModel" "s" "LWishWellModel$State;") (List.mem_of_getElem? (i := 4) rfl)) (fun _ h9 => h9) rfl dX7_landTold_24 ?_
  refine va_getN (own := RX7) (ref := "WishWellModel$State") (host := "WishWellModel") (index := 111) (ci := 9) (v := .ref (q 2)) (C := RX6) (T := TX6) (N := 8) hx hb hts hi_X6 hown hK hP 0 rfl rfl 4 (by decide) (nF_4 hN) (fun _ h9 => h9) rfl dX7_landTold_27 ?_
  refine lv_iload_n hx hb dX7_landTold_30 rfl (lv_at hl 1 rfl) ?_
  obtain ⟨c_9, h⟩ := gd_I h
  refine va_iald hx hb hK hP 2 0 rfl rfl c_9 dX7_landTold_31 ?_
  obtain ⟨c_10, h⟩ := gd_I h
  refine va_iast hx hb hK' hP hD hS 19 2 rfl rfl c_10 dX7_landTold_32 (fun H locs hP hD hS => ?_)
  obtain ⟨N1_11, eN1_11, h⟩ := lt_I h
  have hP : va_P D vwCl (ms cI q o T t ++ (mo cI o (q 0) (u 0) M k ++ (ms cI u o V v ++ ((q_1, ai cA_1 5 N1_11) :: rs)))) H := by rw [eN1_11]; exact hP
  have hD : va_D A (ms cI q o T t ++ (mo cI o (q 0) (u 0) M k ++ (ms cI u o V v ++ ((q_1, ai cA_1 5 N1_11) :: rs)))) := by rw [eN1_11]; exact hD
  refine lv_dup hx hb dX7_landTold_33 rfl ?_
  refine lv_iconst (v := 3) hx hb dX7_landTold_34 (by decide) ?_
  refine lv_aload_n hx hb dX7_landTold_35 rfl (lv_at hl 0 rfl) ?_
  refine va_get (ci := 10) (v := .ref (q 0)) (C := RX7) (T := TX7) (N := 15) hx hb hts hi_X7 hown hK hP 5 rfl rfl 13 (by decide) (hts (.fieldLink RX7 39 "WishWellModel" "s" "LWishWellModel$State;") (List.mem_of_getElem? (i := 4) rfl)) (fun _ h9 => h9) rfl dX7_landTold_36 ?_
  refine lv_iload_n hx hb dX7_landTold_39 rfl (lv_at hl 1 rfl) ?_
  obtain ⟨r_12, hx_13, h⟩ := bd_I h
  refine kVi (As := [.int p0]) (rest := [.int 3, .ref q_1, .ref q_1]) B hK hN hP hD hS hA (c_X6_all l D cI cJ q o (q 0) (u 0) T t M k p0 r_12 (ms cI u o V v ++ ((q_1, ai cA_1 5 N1_11) :: rs)) hx_13) (cwV 1 hts gX7_landTold_X6_all rfl rfl rfl (by decide +kernel) ⟨(Nat.le_of_ble_eq_true rfl), (Nat.le_of_ble_eq_true rfl)⟩) 9 0 rfl rfl rfl hl.1 rfl (Nat.le_of_ble_eq_true rfl) dX7_landTold_40 ⟨(Nat.le_of_ble_eq_true rfl), (Nat.le_of_ble_eq_true rfl)⟩ rfl (fun H locs hP hD hS => ?_)
  obtain ⟨c_14, h⟩ := gd_I h
  refine va_iast hx hb hK' hP hD hS 19 2 rfl rfl c_14 dX7_landTold_43 (fun H locs hP hD hS => ?_)
  obtain ⟨N1_15, eN1_15, h⟩ := lt_I h
  have hP : va_P D vwCl (ms cI q o T t ++ (mo cI o (q 0) (u 0) M k ++ (ms cI u o V v ++ ((q_1, ai cA_1 5 N1_15) :: rs)))) H := by rw [eN1_15]; exact hP
  have hD : va_D A (ms cI q o T t ++ (mo cI o (q 0) (u 0) M k ++ (ms cI u o V v ++ ((q_1, ai cA_1 5 N1_15) :: rs)))) := by rw [eN1_15]; exact hD
  refine lv_dup hx hb dX7_landTold_44 rfl ?_
  refine lv_iconst (v := 4) hx hb dX7_landTold_45 (by decide) ?_
  refine lv_aload_n hx hb dX7_landTold_46 rfl (lv_at hl 0 rfl) ?_
  refine va_get (ci := 10) (v := .ref (o 4)) (C := RX7) (T := TX7) (N := 15) hx hb hts hi_X7 hown hK hP 5 rfl rfl 5 (by decide) (hts (.fieldLink RX7 19 "WishWellModel" "audited" "[I") (List.mem_of_getElem? (i := 5) rfl)) (fun _ h9 => h9) rfl dX7_landTold_47 ?_
  refine lv_iload_n hx hb dX7_landTold_50 rfl (lv_at hl 1 rfl) ?_
  obtain ⟨c_16, h⟩ := gd_I h
  refine va_iald hx hb hK hP 9 0 rfl rfl c_16 dX7_landTold_51 ?_
  obtain ⟨c_17, h⟩ := gd_I h
  refine va_iast hx hb hK' hP hD hS 19 2 rfl rfl c_17 dX7_landTold_52 (fun H locs hP hD hS => ?_)
  obtain ⟨N1_18, eN1_18, h⟩ := lt_I h
  have hP : va_P D vwCl (ms cI q o T t ++ (mo cI o (q 0) (u 0) M k ++ (ms cI u o V v ++ ((q_1, ai cA_1 5 N1_18) :: rs)))) H := by rw [eN1_18]; exact hP
  have hD : va_D A (ms cI q o T t ++ (mo cI o (q 0) (u 0) M k ++ (ms cI u o V v ++ ((q_1, ai cA_1 5 N1_18) :: rs)))) := by rw [eN1_18]; exact hD
  refine lv_astore_n (lv' := [(3, .ref q_1), (0, .ref (o 0)), (1, .int p0), (2, .int p1)]) hx hb dX7_landTold_53 rfl hl (by decide) rfl (fun ls hl => ?_)
  refine lv_aload_n hx hb dX7_landTold_54 rfl (lv_at hl 0 rfl) ?_
  refine lv_iload_n hx hb dX7_landTold_55 rfl (lv_at hl 3 rfl) ?_
  obtain ⟨c_19, h⟩ := gd_I h
  refine va_iald hx hb hK' hP 19 2 rfl rfl c_19 dX7_landTold_56 ?_
  have hP := drop3 hP
  have h0 := o1 h
  exact eI hx hb hr hlk hP hS dX7_landTold_57 (Nat.le_of_ble_eq_true rfl) (Nat.le_of_ble_eq_true rfl) h0 rfl
noncomputable def fX7_land (T : Nat → Nat → Int32) (M : Nat → Nat → Int32) (k : Nat → Int32) (p0 : Int32) (p1 : Int32) : Option (Int32 × (Nat → Int32)) := lt_ (uS k 0 0) (fun k_1 => if (fX7_isLand k_1 p0) = 0 then (b2 (fX7_no k_1 1) (fun r_3 k_4 => some (r_3, k_4))) else (if (fX7_isIn p1 0 4) = 0 then (b2 (fX7_no k_1 1) (fun r_7 k_8 => some (r_7, k_8))) else (Option.bind (fX7_landTold T M p0 p1) (fun r_10 => some (r_10, k_1)))))
set_option maxHeartbeats 4000000 in
set_option maxRecDepth 100000 in
theorem c_X7_land (l : Launch) (D : va_G) (cI cJ : ClassId) (q u o : Nat → Nat) (T : Nat → Nat → Int32) (t : Nat → Int32) (M : Nat → Nat → Int32) (k : Nat → Int32) (V : Nat → Nat → Int32) (v : Nat → Int32) (p0 : Int32) (p1 : Int32) (r' : Int32) (k' : Nat → Int32) (rs : va_W) (h : fX7_land T M k p0 p1 = some (r', k')) : Ci l yX7_land wsX7_land ({ frames := 2, cells := 1, slots := 5, locals := 46 } : Room) D cI cJ ([.ref (o 0), .int p0, .int p1] : List Value) (ms cI q o T t ++ (mo cI o (q 0) (u 0) M k ++ (ms cI u o V v ++ rs))) r' (ms cI q o T t ++ (mo cI o (q 0) (u 0) M k' ++ (ms cI u o V v ++ rs))) := by
  refine Ci.mk (cc := cX7_land) (maxL := 3) (ret := (some .int)) (by decide) rfl (Nat.le_of_ble_eq_true rfl) ?_
  intro p e s m below meth c A ls B hr hlk hK hN hA hP hD hl
  obtain ⟨hx, hb, hml, hown, hts⟩ := id B
  have hi_X7 : ∀ w ∈ wsX70, w ∈ wsX7_land := fun _ h => List.mem_cons_of_mem _ (List.mem_append_left _ (List.mem_append_left _ (List.mem_append_right _ (h))))
  have hS : va_S A s.heap s.heap [] := va_S.rf
  have hl : lv_has ls 3 [(0, .ref (o 0)), (1, .int p0), (2, .int p1)] := hl
  unfold fX7_land at h
  refine lv_aload_n hx hb dX7_land_0 rfl (lv_at hl 0 rfl) ?_
  refine lv_iconst (v := 0) hx hb dX7_land_1 (by decide) ?_
  refine va_put (D := D) (ci := 10) (v := .int 0) (ty := .int) (C := RX7) (T := TX7) (N := 15) hx hb hts hi_X7 tyX7 tyX7_ok nmX7 hown hK hP hD hS 5 rfl rfl 0 (by decide) (hts (.fieldLink RX7 46 "WishWellModel" "thrown" "I") (List.mem_of_getElem? (i := 1) rfl)) (fun _ h9 => h9) rfl (by decide +kernel) rfl rfl (Nat.le_of_ble_eq_true rfl) dX7_land_2 (fun H locs hP hD hS => ?_)
  obtain ⟨k_1, ek_1, h⟩ := lt_I h
  have hP : va_P D vwCl (ms cI q o T t ++ (mo cI o (q 0) (u 0) M k_1 ++ (ms cI u o V v ++ rs))) H := by rw [ek_1]; exact hP
  have hD : va_D A (ms cI q o T t ++ (mo cI o (q 0) (u 0) M k_1 ++ (ms cI u o V v ++ rs))) := by rw [ek_1]; exact hD
  refine lv_aload_n hx hb dX7_land_5 rfl (lv_at hl 0 rfl) ?_
  refine lv_iload_n hx hb dX7_land_6 rfl (lv_at hl 1 rfl) ?_
  refine kVi (As := [.int p0]) (rest := []) B hK hN hP hD hS hA (c_X7_isLand l D cI cJ q u o T t M k_1 V v p0 rs _ rfl) (cwV 1 hts gX7_land_X7_isLand rfl rfl rfl (by decide +kernel) ⟨(Nat.le_of_ble_eq_true rfl), (Nat.le_of_ble_eq_true rfl)⟩) 10 5 rfl rfl rfl hl.1 rfl (Nat.le_of_ble_eq_true rfl) dX7_land_7 ⟨(Nat.le_of_ble_eq_true rfl), (Nat.le_of_ble_eq_true rfl)⟩ rfl (fun H locs hP hD hS => ?_)
  refine lv_if_eq (tgt := 31) hx hb dX7_land_10 (by decide) (fun c_2 => ?_) (fun c_2 => ?_)
  · have h := ip_ h c_2
    refine lv_aload_n hx hb dX7_land_31 rfl (lv_at hl 0 rfl) ?_
    refine lv_iconst (v := 1) hx hb dX7_land_32 (by decide) ?_
    obtain ⟨r_3, k_4, hx_5, h⟩ := b2_I h
    refine kVi (As := [.int 1]) (rest := []) B hK hN hP hD hS hA (c_X7_no l D cI cJ q u o T t M k_1 V v 1 r_3 k_4 rs hx_5) (cwV 1 hts gX7_land_X7_no rfl rfl rfl (by decide +kernel) ⟨(Nat.le_of_ble_eq_true rfl), (Nat.le_of_ble_eq_true rfl)⟩) 10 5 rfl rfl rfl hl.1 rfl (Nat.le_of_ble_eq_true rfl) dX7_land_33 ⟨(Nat.le_of_ble_eq_true rfl), (Nat.le_of_ble_eq_true rfl)⟩ rfl (fun H locs hP hD hS => ?_)
    obtain ⟨h0, h1⟩ := o2 h
    exact eI hx hb hr hlk hP hS dX7_land_36 (Nat.le_of_ble_eq_true rfl) (Nat.le_of_ble_eq_true rfl) h0 (by rw [h1])
  · have h := in_ h c_2
    refine lv_iload_n hx hb dX7_land_13 rfl (lv_at hl 2 rfl) ?_
    refine lv_iconst (v := 0) hx hb dX7_land_14 (by decide) ?_
    refine lv_iconst (v := 4) hx hb dX7_land_15 (by decide) ?_
    refine kSi (As := [.int p1, .int 0, .int 4]) (rest := []) B hK hN hP hD hS hA (c_X7_isIn l D cI cJ  p1 0 4 (ms cI q o T t ++ (mo cI o (q 0) (u 0) M k_1 ++ (ms cI u o V v ++ rs))) _ rfl) (va_cwS 3 hts gX7_land_X7_isIn rfl rfl rfl (by decide +kernel) ⟨(Nat.le_of_ble_eq_true rfl), (Nat.le_of_ble_eq_true rfl)⟩) rfl hl.1 rfl (Nat.le_of_ble_eq_true rfl) dX7_land_16 ⟨(Nat.le_of_ble_eq_true rfl), (Nat.le_of_ble_eq_true rfl)⟩ rfl (fun H locs hP hD hS => ?_)
    refine lv_if_eq (tgt := 31) hx hb dX7_land_19 (by decide) (fun c_6 => ?_) (fun c_6 => ?_)
    · have h := ip_ h c_6
      refine lv_aload_n hx hb dX7_land_31 rfl (lv_at hl 0 rfl) ?_
      refine lv_iconst (v := 1) hx hb dX7_land_32 (by decide) ?_
      obtain ⟨r_7, k_8, hx_9, h⟩ := b2_I h
      refine kVi (As := [.int 1]) (rest := []) B hK hN hP hD hS hA (c_X7_no l D cI cJ q u o T t M k_1 V v 1 r_7 k_8 rs hx_9) (cwV 1 hts gX7_land_X7_no rfl rfl rfl (by decide +kernel) ⟨(Nat.le_of_ble_eq_true rfl), (Nat.le_of_ble_eq_true rfl)⟩) 10 5 rfl rfl rfl hl.1 rfl (Nat.le_of_ble_eq_true rfl) dX7_land_33 ⟨(Nat.le_of_ble_eq_true rfl), (Nat.le_of_ble_eq_true rfl)⟩ rfl (fun H locs hP hD hS => ?_)
      obtain ⟨h0, h1⟩ := o2 h
      exact eI hx hb hr hlk hP hS dX7_land_36 (Nat.le_of_ble_eq_true rfl) (Nat.le_of_ble_eq_true rfl) h0 (by rw [h1])
    · have h := in_ h c_6
      refine lv_aload_n hx hb dX7_land_22 rfl (lv_at hl 0 rfl) ?_
      refine lv_iload_n hx hb dX7_land_23 rfl (lv_at hl 1 rfl) ?_
      refine lv_iload_n hx hb dX7_land_24 rfl (lv_at hl 2 rfl) ?_
      obtain ⟨r_10, hx_11, h⟩ := bd_I h
      refine kVi (As := [.int p0, .int p1]) (rest := []) B hK hN hP hD hS hA (c_X7_landTold l D cI cJ q u o T t M k_1 V v p0 p1 r_10 rs hx_11) (cwV 2 hts gX7_land_X7_landTold rfl rfl rfl (by decide +kernel) ⟨(Nat.le_of_ble_eq_true rfl), (Nat.le_of_ble_eq_true rfl)⟩) 10 5 rfl rfl rfl hl.1 rfl (Nat.le_of_ble_eq_true rfl) dX7_land_25 ⟨(Nat.le_of_ble_eq_true rfl), (Nat.le_of_ble_eq_true rfl)⟩ rfl (fun H locs hP hD hS => ?_)
      refine lv_goto (tgt := 36) hx hb dX7_land_28 (by decide) ?_
      obtain ⟨h0, h1⟩ := o2 h
      exact eI hx hb hr hlk hP hS dX7_land_36 (Nat.le_of_ble_eq_true rfl) (Nat.le_of_ble_eq_true rfl) h0 (by rw [h1])
noncomputable def fX7_coins (T : Nat → Nat → Int32) (k : Nat → Int32) (p0 : Int32) (p1 : Int32) : Option (Int32 × (Nat → Int32)) := lt_ (uS k 0 0) (fun k_1 => if (fX7_isLayer p0) = 0 then (b2 (fX7_no k_1 1) (fun r_3 k_4 => some (r_3, k_4))) else (if (fX7_isLand k_1 p1) = 0 then (b2 (fX7_no k_1 1) (fun r_7 k_8 => some (r_7, k_8))) else (gd (vp_in ((6 * p0) + p1) 30) (some (T 0 (Int32.toNatClampNeg ((6 * p0) + p1)), k_1)))))
set_option maxHeartbeats 4000000 in
set_option maxRecDepth 100000 in
theorem c_X7_coins (l : Launch) (D : va_G) (cI cJ : ClassId) (q u o : Nat → Nat) (T : Nat → Nat → Int32) (t : Nat → Int32) (M : Nat → Nat → Int32) (k : Nat → Int32) (V : Nat → Nat → Int32) (v : Nat → Int32) (p0 : Int32) (p1 : Int32) (r' : Int32) (k' : Nat → Int32) (rs : va_W) (h : fX7_coins T k p0 p1 = some (r', k')) : Ci l yX7_coins wsX7_coins ({ frames := 2, cells := 0, slots := 0, locals := 43 } : Room) D cI cJ ([.ref (o 0), .int p0, .int p1] : List Value) (ms cI q o T t ++ (mo cI o (q 0) (u 0) M k ++ (ms cI u o V v ++ rs))) r' (ms cI q o T t ++ (mo cI o (q 0) (u 0) M k' ++ (ms cI u o V v ++ rs))) := by
  refine Ci.mk (cc := cX7_coins) (maxL := 3) (ret := (some .int)) (by decide) rfl (Nat.le_of_ble_eq_true rfl) ?_
  intro p e s m below meth c A ls B hr hlk hK hN hA hP hD hl
  obtain ⟨hx, hb, hml, hown, hts⟩ := id B
  have hi_X6 : ∀ w ∈ wsX60, w ∈ wsX7_coins := fun _ h => List.mem_cons_of_mem _ (List.mem_append_left _ (List.mem_append_right _ (h)))
  have hi_X7 : ∀ w ∈ wsX70, w ∈ wsX7_coins := fun _ h => List.mem_cons_of_mem _ (List.mem_append_left _ (List.mem_append_left _ (List.mem_append_right _ (h))))
  have hS : va_S A s.heap s.heap [] := va_S.rf
  have hl : lv_has ls 3 [(0, .ref (o 0)), (1, .int p0), (2, .int p1)] := hl
  unfold fX7_coins at h
  refine lv_aload_n hx hb dX7_coins_0 rfl (lv_at hl 0 rfl) ?_
  refine lv_iconst (v := 0) hx hb dX7_coins_1 (by decide) ?_
  refine va_put (D := D) (ci := 10) (v := .int 0) (ty := .int) (C := RX7) (T := TX7) (N := 15) hx hb hts hi_X7 tyX7 tyX7_ok nmX7 hown hK hP hD hS 5 rfl rfl 0 (by decide) (hts (.fieldLink RX7 46 "WishWellModel" "thrown" "I") (List.mem_of_getElem? (i := 1) rfl)) (fun _ h9 => h9) rfl (by decide +kernel) rfl rfl (Nat.le_of_ble_eq_true rfl) dX7_coins_2 (fun H locs hP hD hS => ?_)
  obtain ⟨k_1, ek_1, h⟩ := lt_I h
  have hP : va_P D vwCl (ms cI q o T t ++ (mo cI o (q 0) (u 0) M k_1 ++ (ms cI u o V v ++ rs))) H := by rw [ek_1]; exact hP
  have hD : va_D A (ms cI q o T t ++ (mo cI o (q 0) (u 0) M k_1 ++ (ms cI u o V v ++ rs))) := by rw [ek_1]; exact hD
  refine lv_iload_n hx hb dX7_coins_5 rfl (lv_at hl 1 rfl) ?_
  refine kSi (As := [.int p0]) (rest := []) B hK hN hP hD hS hA (c_X7_isLayer l D cI cJ  p0 (ms cI q o T t ++ (mo cI o (q 0) (u 0) M k_1 ++ (ms cI u o V v ++ rs))) _ rfl) (va_cwS 1 hts gX7_coins_X7_isLayer rfl rfl rfl (by decide +kernel) ⟨(Nat.le_of_ble_eq_true rfl), (Nat.le_of_ble_eq_true rfl)⟩) rfl hl.1 rfl (Nat.le_of_ble_eq_true rfl) dX7_coins_6 ⟨(Nat.le_of_ble_eq_true rfl), (Nat.le_of_ble_eq_true rfl)⟩ rfl (fun H locs hP hD hS => ?_)
  refine lv_if_eq (tgt := 37) hx hb dX7_coins_9 (by decide) (fun c_2 => ?_) (fun c_2 => ?_)
  · have h := ip_ h c_2
    refine lv_aload_n hx hb dX7_coins_37 rfl (lv_at hl 0 rfl) ?_
    refine lv_iconst (v := 1) hx hb dX7_coins_38 (by decide) ?_
    obtain ⟨r_3, k_4, hx_5, h⟩ := b2_I h
    refine kVi (As := [.int 1]) (rest := []) B hK hN hP hD hS hA (c_X7_no l D cI cJ q u o T t M k_1 V v 1 r_3 k_4 rs hx_5) (cwV 1 hts gX7_coins_X7_no rfl rfl rfl (by decide +kernel) ⟨(Nat.le_of_ble_eq_true rfl), (Nat.le_of_ble_eq_true rfl)⟩) 10 5 rfl rfl rfl hl.1 rfl (Nat.le_of_ble_eq_true rfl) dX7_coins_39 ⟨(Nat.le_of_ble_eq_true rfl), (Nat.le_of_ble_eq_true rfl)⟩ rfl (fun H locs hP hD hS => ?_)
    obtain ⟨h0, h1⟩ := o2 h
    exact eI hx hb hr hlk hP hS dX7_coins_42 (Nat.le_of_ble_eq_true rfl) (Nat.le_of_ble_eq_true rfl) h0 (by rw [h1])
  · have h := in_ h c_2
    refine lv_aload_n hx hb dX7_coins_12 rfl (lv_at hl 0 rfl) ?_
    refine lv_iload_n hx hb dX7_coins_13 rfl (lv_at hl 2 rfl) ?_
    refine kVi (As := [.int p1]) (rest := []) B hK hN hP hD hS hA (c_X7_isLand l D cI cJ q u o T t M k_1 V v p1 rs _ rfl) (cwV 1 hts gX7_coins_X7_isLand rfl rfl rfl (by decide +kernel) ⟨(Nat.le_of_ble_eq_true rfl), (Nat.le_of_ble_eq_true rfl)⟩) 10 5 rfl rfl rfl hl.1 rfl (Nat.le_of_ble_eq_true rfl) dX7_coins_14 ⟨(Nat.le_of_ble_eq_true rfl), (Nat.le_of_ble_eq_true rfl)⟩ rfl (fun H locs hP hD hS => ?_)
    refine lv_if_eq (tgt := 37) hx hb dX7_coins_17 (by decide) (fun c_6 => ?_) (fun c_6 => ?_)
    · have h := ip_ h c_6
      refine lv_aload_n hx hb dX7_coins_37 rfl (lv_at hl 0 rfl) ?_
      refine lv_iconst (v := 1) hx hb dX7_coins_38 (by decide) ?_
      obtain ⟨r_7, k_8, hx_9, h⟩ := b2_I h
      refine kVi (As := [.int 1]) (rest := []) B hK hN hP hD hS hA (c_X7_no l D cI cJ q u o T t M k_1 V v 1 r_7 k_8 rs hx_9) (cwV 1 hts gX7_coins_X7_no rfl rfl rfl (by decide +kernel) ⟨(Nat.le_of_ble_eq_true rfl), (Nat.le_of_ble_eq_true rfl)⟩) 10 5 rfl rfl rfl hl.1 rfl (Nat.le_of_ble_eq_true rfl) dX7_coins_39 ⟨(Nat.le_of_ble_eq_true rfl), (Nat.le_of_ble_eq_true rfl)⟩ rfl (fun H locs hP hD hS => ?_)
      obtain ⟨h0, h1⟩ := o2 h
      exact eI hx hb hr hlk hP hS dX7_coins_42 (Nat.le_of_ble_eq_true rfl) (Nat.le_of_ble_eq_true rfl) h0 (by rw [h1])
    · have h := in_ h c_6
      refine lv_aload_n hx hb dX7_coins_20 rfl (lv_at hl 0 rfl) ?_
      refine va_get (ci := 10) (v := .ref (q 0)) (C := RX7) (T := TX7) (N := 15) hx hb hts hi_X7 hown hK hP 5 rfl rfl 13 (by decide) (hts (.fieldLink RX7 39 "WishWellModel" "s" "LWishWellModel$State;") (List.mem_of_getElem? (i := 2) rfl)) (fun _ h9 => h9) rfl dX7_coins_21 ?_
      refine va_getN (own := RX7) (ref := "WishWellModel$State") (host := "WishWellModel") (index := 93) (ci := 9) (v := .ref (q 1)) (C := RX6) (T := TX6) (N := 8) hx hb hts hi_X6 hown hK hP 0 rfl rfl 3 (by decide) (nF_3 hN) (fun _ h9 => h9) rfl dX7_coins_24 ?_
      refine lv_bipush (v := 6) hx hb dX7_coins_27 (by decide) ?_
      refine lv_iload_n hx hb dX7_coins_29 rfl (lv_at hl 1 rfl) ?_
      refine lv_imul hx hb dX7_coins_30 ?_
      refine lv_iload_n hx hb dX7_coins_31 rfl (lv_at hl 2 rfl) ?_
      refine lv_iadd hx hb dX7_coins_32 ?_
      obtain ⟨c_10, h⟩ := gd_I h
      refine va_iald hx hb hK hP 1 0 rfl rfl c_10 dX7_coins_33 ?_
      refine lv_goto (tgt := 42) hx hb dX7_coins_34 (by decide) ?_
      obtain ⟨h0, h1⟩ := o2 h
      exact eI hx hb hr hlk hP hS dX7_coins_42 (Nat.le_of_ble_eq_true rfl) (Nat.le_of_ble_eq_true rfl) h0 (by rw [h1])
noncomputable def fX7_wishTold (T : Nat → Nat → Int32) (M : Nat → Nat → Int32) (p0 : Int32) (p1 : Int32) : Option (Int32) := lt_ (fun _ => 0 : Nat → Int32) (fun N1_2 => gd (vp_in p0 24) (gd (vp_in 0 5) (lt_ (upd N1_2 (Int32.toNatClampNeg 0) (M 5 (Int32.toNatClampNeg p0))) (fun N1_5 => gd (vp_in p0 24) (gd (vp_in 1 5) (lt_ (upd N1_5 (Int32.toNatClampNeg 1) (M 6 (Int32.toNatClampNeg p0))) (fun N1_8 => gd (vp_in p0 24) (gd (vp_in 2 5) (lt_ (upd N1_8 (Int32.toNatClampNeg 2) (M 7 (Int32.toNatClampNeg p0))) (fun N1_11 => gd (vp_in p0 24) (gd (vp_in 3 5) (lt_ (upd N1_11 (Int32.toNatClampNeg 3) (T 2 (Int32.toNatClampNeg p0))) (fun N1_14 => gd (vp_in p0 24) (gd (vp_in 4 5) (lt_ (upd N1_14 (Int32.toNatClampNeg 4) (T 3 (Int32.toNatClampNeg p0))) (fun N1_17 => gd (vp_in p1 5) (some (N1_17 (Int32.toNatClampNeg p1)))))))))))))))))))
set_option maxHeartbeats 4000000 in
set_option maxRecDepth 100000 in
theorem c_X7_wishTold (l : Launch) (D : va_G) (cI cJ : ClassId) (q u o : Nat → Nat) (T : Nat → Nat → Int32) (t : Nat → Int32) (M : Nat → Nat → Int32) (k : Nat → Int32) (V : Nat → Nat → Int32) (v : Nat → Int32) (p0 : Int32) (p1 : Int32) (r' : Int32) (rs : va_W) (h : fX7_wishTold T M p0 p1 = some r') : Ci l yX7_wishTold wsX7_wishTold ({ frames := 0, cells := 1, slots := 5, locals := 0 } : Room) D cI cJ ([.ref (o 0), .int p0, .int p1] : List Value) (ms cI q o T t ++ (mo cI o (q 0) (u 0) M k ++ (ms cI u o V v ++ rs))) r' (ms cI q o T t ++ (mo cI o (q 0) (u 0) M k ++ (ms cI u o V v ++ rs))) := by
  refine Ci.mk (cc := cX7_wishTold) (maxL := 4) (ret := (some .int)) (by decide) rfl (Nat.le_of_ble_eq_true rfl) ?_
  intro p e s m below meth c A ls B hr hlk hK hN hA hP hD hl
  obtain ⟨hx, hb, hml, hown, hts⟩ := id B
  have hi_X6 : ∀ w ∈ wsX60, w ∈ wsX7_wishTold := fun _ h => List.mem_cons_of_mem _ (List.mem_append_left _ (List.mem_append_right _ (h)))
  have hi_X7 : ∀ w ∈ wsX70, w ∈ wsX7_wishTold := fun _ h => List.mem_cons_of_mem _ (List.mem_append_left _ (List.mem_append_left _ (List.mem_append_right _ (h))))
  have hS : va_S A s.heap s.heap [] := va_S.rf
  have hl : lv_has ls 4 [(0, .ref (o 0)), (1, .int p0), (2, .int p1)] := hl
  unfold fX7_wishTold at h
  refine lv_iconst (v := 5) hx hb dX7_wishTold_0 (by decide) ?_
  refine va_newa (atype := .int) (n := 5) (N' := 5) (a0 := (5, .inl (fun _ => 0))) hx hb (hts (.arrayClass .int) (List.mem_of_getElem? (i := 1) rfl)) rfl hK hP hD hS hA (fun cA => rfl) (by decide) rfl (by decide) (Nat.le_of_ble_eq_true rfl) (Nat.le_of_ble_eq_true rfl) dX7_wishTold_1 (fun q_1 cA_1 H hK' hP hD hS => ?_)
  have hP : va_P D vwCl (ms cI q o T t ++ (mo cI o (q 0) (u 0) M k ++ (ms cI u o V v ++ ((q_1, ai cA_1 5 (fun _ => 0)) :: rs)))) H := P_perm (pmx3 _ _ _ _ _) hP
  have hD : va_D A (ms cI q o T t ++ (mo cI o (q 0) (u 0) M k ++ (ms cI u o V v ++ ((q_1, ai cA_1 5 (fun _ => 0)) :: rs)))) := D_perm (pmx3 _ _ _ _ _) hD
  obtain ⟨N1_2, eN1_2, h⟩ := lt_I h
  have hP : va_P D vwCl (ms cI q o T t ++ (mo cI o (q 0) (u 0) M k ++ (ms cI u o V v ++ ((q_1, ai cA_1 5 N1_2) :: rs)))) H := by rw [eN1_2]; exact hP
  have hD : va_D A (ms cI q o T t ++ (mo cI o (q 0) (u 0) M k ++ (ms cI u o V v ++ ((q_1, ai cA_1 5 N1_2) :: rs)))) := by rw [eN1_2]; exact hD
  refine lv_dup hx hb dX7_wishTold_3 rfl ?_
  refine lv_iconst (v := 0) hx hb dX7_wishTold_4 (by decide) ?_
  refine lv_aload_n hx hb dX7_wishTold_5 rfl (lv_at hl 0 rfl) ?_
  refine va_get (ci := 10) (v := .ref (o 6)) (C := RX7) (T := TX7) (N := 15) hx hb hts hi_X7 hown hK hP 5 rfl rfl 8 (by decide) (hts (.fieldLink RX7 25 "WishWellModel" "kind" "[I") (List.mem_of_getElem? (i := 2) rfl)) (fun _ h9 => h9) rfl dX7_wishTold_6 ?_
  refine lv_iload_n hx hb dX7_wishTold_9 rfl (lv_at hl 1 rfl) ?_
  obtain ⟨c_3, h⟩ := gd_I h
  refine va_iald hx hb hK hP 11 0 rfl rfl c_3 dX7_wishTold_10 ?_
  obtain ⟨c_4, h⟩ := gd_I h
  refine va_iast hx hb hK' hP hD hS 19 2 rfl rfl c_4 dX7_wishTold_11 (fun H locs hP hD hS => ?_)
  obtain ⟨N1_5, eN1_5, h⟩ := lt_I h
  have hP : va_P D vwCl (ms cI q o T t ++ (mo cI o (q 0) (u 0) M k ++ (ms cI u o V v ++ ((q_1, ai cA_1 5 N1_5) :: rs)))) H := by rw [eN1_5]; exact hP
  have hD : va_D A (ms cI q o T t ++ (mo cI o (q 0) (u 0) M k ++ (ms cI u o V v ++ ((q_1, ai cA_1 5 N1_5) :: rs)))) := by rw [eN1_5]; exact hD
  refine lv_dup hx hb dX7_wishTold_12 rfl ?_
  refine lv_iconst (v := 1) hx hb dX7_wishTold_13 (by decide) ?_
  refine lv_aload_n hx hb dX7_wishTold_14 rfl (lv_at hl 0 rfl) ?_
  refine va_get (ci := 10) (v := .ref (o 7)) (C := RX7) (T := TX7) (N := 15) hx hb hts hi_X7 hown hK hP 5 rfl rfl 9 (by decide) (hts (.fieldLink RX7 28 "WishWellModel" "landOf" "[I") (List.mem_of_getElem? (i := 3) rfl)) (fun _ h9 => h9) rfl dX7_wishTold_15 ?_
  refine lv_iload_n hx hb dX7_wishTold_18 rfl (lv_at hl 1 rfl) ?_
  obtain ⟨c_6, h⟩ := gd_I h
  refine va_iald hx hb hK hP 12 0 rfl rfl c_6 dX7_wishTold_19 ?_
  obtain ⟨c_7, h⟩ := gd_I h
  refine va_iast hx hb hK' hP hD hS 19 2 rfl rfl c_7 dX7_wishTold_20 (fun H locs hP hD hS => ?_)
  obtain ⟨N1_8, eN1_8, h⟩ := lt_I h
  have hP : va_P D vwCl (ms cI q o T t ++ (mo cI o (q 0) (u 0) M k ++ (ms cI u o V v ++ ((q_1, ai cA_1 5 N1_8) :: rs)))) H := by rw [eN1_8]; exact hP
  have hD : va_D A (ms cI q o T t ++ (mo cI o (q 0) (u 0) M k ++ (ms cI u o V v ++ ((q_1, ai cA_1 5 N1_8) :: rs)))) := by rw [eN1_8]; exact hD
  refine lv_dup hx hb dX7_wishTold_21 rfl ?_
  refine lv_iconst (v := 2) hx hb dX7_wishTold_22 (by decide) ?_
  refine lv_aload_n hx hb dX7_wishTold_23 rfl (lv_at hl 0 rfl) ?_
  refine va_get (ci := 10) (v := .ref (o 8)) (C := RX7) (T := TX7) (N := 15) hx hb hts hi_X7 hown hK hP 5 rfl rfl 10 (by decide) (hts (.fieldLink RX7 31 "WishWellModel" "day" "[I") (List.mem_of_getElem? (i := 4) rfl)) (fun _ h9 => h9) rfl dX7_wishTold_24 ?_
  refine lv_iload_n hx hb dX7_wishTold_27 rfl (lv_at hl 1 rfl) ?_
  obtain ⟨c_9, h⟩ := gd_I h
  refine va_iald hx hb hK hP 13 0 rfl rfl c_9 dX7_wishTold_28 ?_
  obtain ⟨c_10, h⟩ := gd_I h
  refine va_iast hx hb hK' hP hD hS 19 2 rfl rfl c_10 dX7_wishTold_29 (fun H locs hP hD hS => ?_)
  obtain ⟨N1_11, eN1_11, h⟩ := lt_I h
  have hP : va_P D vwCl (ms cI q o T t ++ (mo cI o (q 0) (u 0) M k ++ (ms cI u o V v ++ ((q_1, ai cA_1 5 N1_11) :: rs)))) H := by rw [eN1_11]; exact hP
  have hD : va_D A (ms cI q o T t ++ (mo cI o (q 0) (u 0) M k ++ (ms cI u o V v ++ ((q_1, ai cA_1 5 N1_11) :: rs)))) := by rw [eN1_11]; exact hD
  refine lv_dup hx hb dX7_wishTold_30 rfl ?_
  refine lv_iconst (v := 3) hx hb dX7_wishTold_31 (by decide) ?_
  refine lv_aload_n hx hb dX7_wishTold_32 rfl (lv_at hl 0 rfl) ?_
  refine va_get (ci := 10) (v := .ref (q 0)) (C := RX7) (T := TX7) (N := 15) hx hb hts hi_X7 hown hK hP 5 rfl rfl 13 (by decide) (hts (.fieldLink RX7 39 "WishWellModel" "s" "LWishWellModel$State;") (List.mem_of_getElem? (i := 5) rfl)) (fun _ h9 => h9) rfl dX7_wishTold_33 ?_
  refine va_getN (own := RX7) (ref := "WishWellModel$State") (host := "WishWellModel") (index := 81) (ci := 9) (v := .ref (q 3)) (C := RX6) (T := TX6) (N := 8) hx hb hts hi_X6 hown hK hP 0 rfl rfl 5 (by decide) (nF_5 hN) (fun _ h9 => h9) rfl dX7_wishTold_36 ?_
  refine lv_iload_n hx hb dX7_wishTold_39 rfl (lv_at hl 1 rfl) ?_
  obtain ⟨c_12, h⟩ := gd_I h
  refine va_iald hx hb hK hP 3 0 rfl rfl c_12 dX7_wishTold_40 ?_
  obtain ⟨c_13, h⟩ := gd_I h
  refine va_iast hx hb hK' hP hD hS 19 2 rfl rfl c_13 dX7_wishTold_41 (fun H locs hP hD hS => ?_)
  obtain ⟨N1_14, eN1_14, h⟩ := lt_I h
  have hP : va_P D vwCl (ms cI q o T t ++ (mo cI o (q 0) (u 0) M k ++ (ms cI u o V v ++ ((q_1, ai cA_1 5 N1_14) :: rs)))) H := by rw [eN1_14]; exact hP
  have hD : va_D A (ms cI q o T t ++ (mo cI o (q 0) (u 0) M k ++ (ms cI u o V v ++ ((q_1, ai cA_1 5 N1_14) :: rs)))) := by rw [eN1_14]; exact hD
  refine lv_dup hx hb dX7_wishTold_42 rfl ?_
  refine lv_iconst (v := 4) hx hb dX7_wishTold_43 (by decide) ?_
  refine lv_aload_n hx hb dX7_wishTold_44 rfl (lv_at hl 0 rfl) ?_
  refine va_get (ci := 10) (v := .ref (q 0)) (C := RX7) (T := TX7) (N := 15) hx hb hts hi_X7 hown hK hP 5 rfl rfl 13 (by decide) (hts (.fieldLink RX7 39 "WishWellModel" "s" "LWishWellModel$State;") (List.mem_of_getElem? (i := 5) rfl)) (fun _ h9 => h9) rfl dX7_wishTold_45 ?_
  refine va_getN (own := RX7) (ref := "WishWellModel$State") (host := "WishWellModel") (index := 71) (ci := 9) (v := .ref (q 4)) (C := RX6) (T := TX6) (N := 8) hx hb hts hi_X6 hown hK hP 0 rfl rfl 6 (by decide) (nF_6 hN) (fun _ h9 => h9) rfl dX7_wishTold_48 ?_
  refine lv_iload_n hx hb dX7_wishTold_51 rfl (lv_at hl 1 rfl) ?_
  obtain ⟨c_15, h⟩ := gd_I h
  refine va_iald hx hb hK hP 4 0 rfl rfl c_15 dX7_wishTold_52 ?_
  obtain ⟨c_16, h⟩ := gd_I h
  refine va_iast hx hb hK' hP hD hS 19 2 rfl rfl c_16 dX7_wishTold_53 (fun H locs hP hD hS => ?_)
  obtain ⟨N1_17, eN1_17, h⟩ := lt_I h
  have hP : va_P D vwCl (ms cI q o T t ++ (mo cI o (q 0) (u 0) M k ++ (ms cI u o V v ++ ((q_1, ai cA_1 5 N1_17) :: rs)))) H := by rw [eN1_17]; exact hP
  have hD : va_D A (ms cI q o T t ++ (mo cI o (q 0) (u 0) M k ++ (ms cI u o V v ++ ((q_1, ai cA_1 5 N1_17) :: rs)))) := by rw [eN1_17]; exact hD
  refine lv_astore_n (lv' := [(3, .ref q_1), (0, .ref (o 0)), (1, .int p0), (2, .int p1)]) hx hb dX7_wishTold_54 rfl hl (by decide) rfl (fun ls hl => ?_)
  refine lv_aload_n hx hb dX7_wishTold_55 rfl (lv_at hl 0 rfl) ?_
  refine lv_iload_n hx hb dX7_wishTold_56 rfl (lv_at hl 3 rfl) ?_
  obtain ⟨c_18, h⟩ := gd_I h
  refine va_iald hx hb hK' hP 19 2 rfl rfl c_18 dX7_wishTold_57 ?_
  have hP := drop3 hP
  have h0 := o1 h
  exact eI hx hb hr hlk hP hS dX7_wishTold_58 (Nat.le_of_ble_eq_true rfl) (Nat.le_of_ble_eq_true rfl) h0 rfl
noncomputable def fX7_told (T : Nat → Nat → Int32) (M : Nat → Nat → Int32) (k : Nat → Int32) (p0 : Int32) (p1 : Int32) : Option (Int32 × (Nat → Int32)) := lt_ (uS k 0 0) (fun k_1 => if (fX7_isWish k_1 p0) = 0 then (b2 (fX7_no k_1 1) (fun r_3 k_4 => some (r_3, k_4))) else (if (fX7_isIn p1 0 4) = 0 then (b2 (fX7_no k_1 1) (fun r_7 k_8 => some (r_7, k_8))) else (Option.bind (fX7_wishTold T M p0 p1) (fun r_10 => some (r_10, k_1)))))
set_option maxHeartbeats 4000000 in
set_option maxRecDepth 100000 in
theorem c_X7_told (l : Launch) (D : va_G) (cI cJ : ClassId) (q u o : Nat → Nat) (T : Nat → Nat → Int32) (t : Nat → Int32) (M : Nat → Nat → Int32) (k : Nat → Int32) (V : Nat → Nat → Int32) (v : Nat → Int32) (p0 : Int32) (p1 : Int32) (r' : Int32) (k' : Nat → Int32) (rs : va_W) (h : fX7_told T M k p0 p1 = some (r', k')) : Ci l yX7_told wsX7_told ({ frames := 2, cells := 1, slots := 5, locals := 43 } : Room) D cI cJ ([.ref (o 0), .int p0, .int p1] : List Value) (ms cI q o T t ++ (mo cI o (q 0) (u 0) M k ++ (ms cI u o V v ++ rs))) r' (ms cI q o T t ++ (mo cI o (q 0) (u 0) M k' ++ (ms cI u o V v ++ rs))) := by
  refine Ci.mk (cc := cX7_told) (maxL := 3) (ret := (some .int)) (by decide) rfl (Nat.le_of_ble_eq_true rfl) ?_
  intro p e s m below meth c A ls B hr hlk hK hN hA hP hD hl
  obtain ⟨hx, hb, hml, hown, hts⟩ := id B
  have hi_X7 : ∀ w ∈ wsX70, w ∈ wsX7_told := fun _ h => List.mem_cons_of_mem _ (List.mem_append_left _ (List.mem_append_left _ (List.mem_append_right _ (h))))
  have hS : va_S A s.heap s.heap [] := va_S.rf
  have hl : lv_has ls 3 [(0, .ref (o 0)), (1, .int p0), (2, .int p1)] := hl
  unfold fX7_told at h
  refine lv_aload_n hx hb dX7_told_0 rfl (lv_at hl 0 rfl) ?_
  refine lv_iconst (v := 0) hx hb dX7_told_1 (by decide) ?_
  refine va_put (D := D) (ci := 10) (v := .int 0) (ty := .int) (C := RX7) (T := TX7) (N := 15) hx hb hts hi_X7 tyX7 tyX7_ok nmX7 hown hK hP hD hS 5 rfl rfl 0 (by decide) (hts (.fieldLink RX7 46 "WishWellModel" "thrown" "I") (List.mem_of_getElem? (i := 1) rfl)) (fun _ h9 => h9) rfl (by decide +kernel) rfl rfl (Nat.le_of_ble_eq_true rfl) dX7_told_2 (fun H locs hP hD hS => ?_)
  obtain ⟨k_1, ek_1, h⟩ := lt_I h
  have hP : va_P D vwCl (ms cI q o T t ++ (mo cI o (q 0) (u 0) M k_1 ++ (ms cI u o V v ++ rs))) H := by rw [ek_1]; exact hP
  have hD : va_D A (ms cI q o T t ++ (mo cI o (q 0) (u 0) M k_1 ++ (ms cI u o V v ++ rs))) := by rw [ek_1]; exact hD
  refine lv_aload_n hx hb dX7_told_5 rfl (lv_at hl 0 rfl) ?_
  refine lv_iload_n hx hb dX7_told_6 rfl (lv_at hl 1 rfl) ?_
  refine kVi (As := [.int p0]) (rest := []) B hK hN hP hD hS hA (c_X7_isWish l D cI cJ q u o T t M k_1 V v p0 rs _ rfl) (cwV 1 hts gX7_told_X7_isWish rfl rfl rfl (by decide +kernel) ⟨(Nat.le_of_ble_eq_true rfl), (Nat.le_of_ble_eq_true rfl)⟩) 10 5 rfl rfl rfl hl.1 rfl (Nat.le_of_ble_eq_true rfl) dX7_told_7 ⟨(Nat.le_of_ble_eq_true rfl), (Nat.le_of_ble_eq_true rfl)⟩ rfl (fun H locs hP hD hS => ?_)
  refine lv_if_eq (tgt := 31) hx hb dX7_told_10 (by decide) (fun c_2 => ?_) (fun c_2 => ?_)
  · have h := ip_ h c_2
    refine lv_aload_n hx hb dX7_told_31 rfl (lv_at hl 0 rfl) ?_
    refine lv_iconst (v := 1) hx hb dX7_told_32 (by decide) ?_
    obtain ⟨r_3, k_4, hx_5, h⟩ := b2_I h
    refine kVi (As := [.int 1]) (rest := []) B hK hN hP hD hS hA (c_X7_no l D cI cJ q u o T t M k_1 V v 1 r_3 k_4 rs hx_5) (cwV 1 hts gX7_told_X7_no rfl rfl rfl (by decide +kernel) ⟨(Nat.le_of_ble_eq_true rfl), (Nat.le_of_ble_eq_true rfl)⟩) 10 5 rfl rfl rfl hl.1 rfl (Nat.le_of_ble_eq_true rfl) dX7_told_33 ⟨(Nat.le_of_ble_eq_true rfl), (Nat.le_of_ble_eq_true rfl)⟩ rfl (fun H locs hP hD hS => ?_)
    obtain ⟨h0, h1⟩ := o2 h
    exact eI hx hb hr hlk hP hS dX7_told_36 (Nat.le_of_ble_eq_true rfl) (Nat.le_of_ble_eq_true rfl) h0 (by rw [h1])
  · have h := in_ h c_2
    refine lv_iload_n hx hb dX7_told_13 rfl (lv_at hl 2 rfl) ?_
    refine lv_iconst (v := 0) hx hb dX7_told_14 (by decide) ?_
    refine lv_iconst (v := 4) hx hb dX7_told_15 (by decide) ?_
    refine kSi (As := [.int p1, .int 0, .int 4]) (rest := []) B hK hN hP hD hS hA (c_X7_isIn l D cI cJ  p1 0 4 (ms cI q o T t ++ (mo cI o (q 0) (u 0) M k_1 ++ (ms cI u o V v ++ rs))) _ rfl) (va_cwS 3 hts gX7_told_X7_isIn rfl rfl rfl (by decide +kernel) ⟨(Nat.le_of_ble_eq_true rfl), (Nat.le_of_ble_eq_true rfl)⟩) rfl hl.1 rfl (Nat.le_of_ble_eq_true rfl) dX7_told_16 ⟨(Nat.le_of_ble_eq_true rfl), (Nat.le_of_ble_eq_true rfl)⟩ rfl (fun H locs hP hD hS => ?_)
    refine lv_if_eq (tgt := 31) hx hb dX7_told_19 (by decide) (fun c_6 => ?_) (fun c_6 => ?_)
    · have h := ip_ h c_6
      refine lv_aload_n hx hb dX7_told_31 rfl (lv_at hl 0 rfl) ?_
      refine lv_iconst (v := 1) hx hb dX7_told_32 (by decide) ?_
      obtain ⟨r_7, k_8, hx_9, h⟩ := b2_I h
      refine kVi (As := [.int 1]) (rest := []) B hK hN hP hD hS hA (c_X7_no l D cI cJ q u o T t M k_1 V v 1 r_7 k_8 rs hx_9) (cwV 1 hts gX7_told_X7_no rfl rfl rfl (by decide +kernel) ⟨(Nat.le_of_ble_eq_true rfl), (Nat.le_of_ble_eq_true rfl)⟩) 10 5 rfl rfl rfl hl.1 rfl (Nat.le_of_ble_eq_true rfl) dX7_told_33 ⟨(Nat.le_of_ble_eq_true rfl), (Nat.le_of_ble_eq_true rfl)⟩ rfl (fun H locs hP hD hS => ?_)
      obtain ⟨h0, h1⟩ := o2 h
      exact eI hx hb hr hlk hP hS dX7_told_36 (Nat.le_of_ble_eq_true rfl) (Nat.le_of_ble_eq_true rfl) h0 (by rw [h1])
    · have h := in_ h c_6
      refine lv_aload_n hx hb dX7_told_22 rfl (lv_at hl 0 rfl) ?_
      refine lv_iload_n hx hb dX7_told_23 rfl (lv_at hl 1 rfl) ?_
      refine lv_iload_n hx hb dX7_told_24 rfl (lv_at hl 2 rfl) ?_
      obtain ⟨r_10, hx_11, h⟩ := bd_I h
      refine kVi (As := [.int p0, .int p1]) (rest := []) B hK hN hP hD hS hA (c_X7_wishTold l D cI cJ q u o T t M k_1 V v p0 p1 r_10 rs hx_11) (cwV 2 hts gX7_told_X7_wishTold rfl rfl rfl (by decide +kernel) ⟨(Nat.le_of_ble_eq_true rfl), (Nat.le_of_ble_eq_true rfl)⟩) 10 5 rfl rfl rfl hl.1 rfl (Nat.le_of_ble_eq_true rfl) dX7_told_25 ⟨(Nat.le_of_ble_eq_true rfl), (Nat.le_of_ble_eq_true rfl)⟩ rfl (fun H locs hP hD hS => ?_)
      refine lv_goto (tgt := 36) hx hb dX7_told_28 (by decide) ?_
      obtain ⟨h0, h1⟩ := o2 h
      exact eI hx hb hr hlk hP hS dX7_told_36 (Nat.le_of_ble_eq_true rfl) (Nat.le_of_ble_eq_true rfl) h0 (by rw [h1])
