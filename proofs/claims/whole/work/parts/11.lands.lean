/-! laid by wip/whole/gen.py -/
noncomputable def fX1_takeOver (G : Nat → Nat → Int32) (J : Nat → Nat → Int32) : Option ((Nat → Nat → Int32)) := lt_ (uG J 11 (rCp 30 (G 11) (J 11))) (fun J_1 => some J_1)
set_option maxHeartbeats 4000000 in
set_option maxRecDepth 100000 in
theorem c_X1_takeOver (l : Launch) (D : va_G) (cI cJ : ClassId) (a b : Nat → Nat) (G : Nat → Nat → Int32) (g : Nat → Int32) (J : Nat → Nat → Int32) (j : Nat → Int32) (J' : Nat → Nat → Int32) (rs : va_W) (h : fX1_takeOver G J = some J') : Cv l yX1_takeOver wsX1_takeOver ({ frames := 2, cells := 0, slots := 0, locals := 81 } : Room) D cI cJ ([.ref (b 3), .ref (a 3)] : List Value) (wl cI b J j ++ (wl cI a G g ++ rs)) (wl cI b J' j ++ (wl cI a G g ++ rs)) := by
  refine Cv.mk (cc := cX1_takeOver) (maxL := 2) (ret := none) (by decide) rfl (Nat.le_of_ble_eq_true rfl) ?_
  intro p e s m below meth c A ls B hr hlk hK hN hA hP hD hl
  obtain ⟨hx, hb, hml, hown, hts⟩ := id B
  have hi_X1 : ∀ w ∈ wsX10, w ∈ wsX1_takeOver := fun _ h => List.mem_cons_of_mem _ (List.mem_append_left _ (List.mem_append_right _ (h)))
  have hS : va_S A s.heap s.heap [] := va_S.rf
  have hl : lv_has ls 2 [(0, .ref (b 3)), (1, .ref (a 3))] := hl
  unfold fX1_takeOver at h
  refine lv_aload_n hx hb dX1_takeOver_0 rfl (lv_at hl 0 rfl) ?_
  refine va_get (ci := 4) (v := .ref (b 15)) (C := RX1) (T := TX1) (N := 1) hx hb hts hi_X1 hown hK hP 3 rfl rfl 0 (by decide) (hts (.fieldLink RX1 14 "WishWell$Layers" "cells" "LWishWell$Row;") (List.mem_of_getElem? (i := 1) rfl)) (fun _ h9 => h9) rfl dX1_takeOver_1 ?_
  refine lv_aload_n hx hb dX1_takeOver_4 rfl (lv_at hl 1 rfl) ?_
  refine va_get (ci := 4) (v := .ref (a 15)) (C := RX1) (T := TX1) (N := 1) hx hb hts hi_X1 hown hK hP 31 rfl rfl 0 (by decide) (hts (.fieldLink RX1 14 "WishWell$Layers" "cells" "LWishWell$Row;") (List.mem_of_getElem? (i := 1) rfl)) (fun _ h9 => h9) rfl dX1_takeOver_5 ?_
  refine kVv (As := [.ref (a 15)]) (rest := []) B hK hN hP hD hS hA (c_X2_takeOver l D cI cJ _ (wl cI b (uG J 11 (rCp 30 (G 11) (J 11))) j ++ (wl cI a G g ++ rs)) _ _ _ _ 30 (G 11) (J 11) 15 27 43 55 rfl rfl rfl rfl (by decide) rfl) (cwV 1 hts gX1_takeOver_X2_takeOver rfl rfl rfl (by decide +kernel) ⟨(Nat.le_of_ble_eq_true rfl), (Nat.le_of_ble_eq_true rfl)⟩) 5 15 rfl rfl rfl hl.1 rfl (Nat.le_of_ble_eq_true rfl) dX1_takeOver_8 ⟨(Nat.le_of_ble_eq_true rfl), (Nat.le_of_ble_eq_true rfl)⟩ rfl (fun H locs hP hD hS => ?_)
  obtain ⟨J_1, eJ_1, h⟩ := lt_I h
  have hP : va_P D vwCl (wl cI b J_1 j ++ (wl cI a G g ++ rs)) H := by rw [eJ_1]; exact hP
  have hD : va_D A (wl cI b J_1 j ++ (wl cI a G g ++ rs)) := by rw [eJ_1]; exact hD
  have h0 := o1 h
  exact eV hx hb hr hlk hP hS dX1_takeOver_11 (Nat.le_of_ble_eq_true rfl) (Nat.le_of_ble_eq_true rfl) (by rw [h0])
noncomputable def fX0_has (g : Nat → Int32) (p0 : Int32) : Int32 := if p0 < 0 then (0) else (if (g 5) ≤ p0 then (0) else (1))
set_option maxHeartbeats 4000000 in
set_option maxRecDepth 100000 in
theorem c_X0_has (l : Launch) (D : va_G) (cI cJ : ClassId) (a : Nat → Nat) (G : Nat → Nat → Int32) (g : Nat → Int32) (p0 : Int32) (rs : va_W) (r' : Int32) (h : fX0_has g p0 = r') : Ci l yX0_has wsX0_has ({ frames := 0, cells := 0, slots := 0, locals := 0 } : Room) D cI cJ ([.ref (a 1), .int p0] : List Value) (wl cI a G g ++ rs) r' (wl cI a G g ++ rs) := by
  refine Ci.mk (cc := cX0_has) (maxL := 2) (ret := (some .boolean)) (by decide) rfl (Nat.le_of_ble_eq_true rfl) ?_
  intro p e s m below meth c A ls B hr hlk hK hN hA hP hD hl
  obtain ⟨hx, hb, hml, hown, hts⟩ := id B
  have hi_X0 : ∀ w ∈ wsX00, w ∈ wsX0_has := fun _ h => List.mem_cons_of_mem _ (List.mem_append_right _ (h))
  have hS : va_S A s.heap s.heap [] := va_S.rf
  have hl : lv_has ls 2 [(0, .ref (a 1)), (1, .int p0)] := hl
  unfold fX0_has at h
  refine lv_iload_n hx hb dX0_has_0 rfl (lv_at hl 1 rfl) ?_
  refine lv_if_lt (tgt := 16) hx hb dX0_has_1 (by decide) (fun c_1 => ?_) (fun c_1 => ?_)
  · have h := ip_ h c_1
    refine lv_iconst (v := 0) hx hb dX0_has_16 (by decide) ?_
    exact eZ hx hb hr nar0 hlk hP hS dX0_has_17 (Nat.le_of_ble_eq_true rfl) (Nat.le_of_ble_eq_true rfl) h rfl
  · have h := in_ h c_1
    refine lv_iload_n hx hb dX0_has_4 rfl (lv_at hl 1 rfl) ?_
    refine lv_aload_n hx hb dX0_has_5 rfl (lv_at hl 0 rfl) ?_
    refine va_get (ci := 3) (v := .int (g 5)) (C := RX0) (T := TX0) (N := 6) hx hb hts hi_X0 hown hK hP 1 rfl rfl 5 (by decide) (hts (.fieldLink RX0 32 "WishWell$Lands" "size" "I") (List.mem_of_getElem? (i := 1) rfl)) (fun _ h9 => h9) rfl dX0_has_6 ?_
    refine lv_icmp_ge (tgt := 16) hx hb dX0_has_9 (by decide) (fun c_2 => ?_) (fun c_2 => ?_)
    · have h := ip_ h c_2
      refine lv_iconst (v := 0) hx hb dX0_has_16 (by decide) ?_
      exact eZ hx hb hr nar0 hlk hP hS dX0_has_17 (Nat.le_of_ble_eq_true rfl) (Nat.le_of_ble_eq_true rfl) h rfl
    · have h := in_ h c_2
      refine lv_iconst (v := 1) hx hb dX0_has_12 (by decide) ?_
      refine lv_goto (tgt := 17) hx hb dX0_has_13 (by decide) ?_
      exact eZ hx hb hr nar1 hlk hP hS dX0_has_17 (Nat.le_of_ble_eq_true rfl) (Nat.le_of_ble_eq_true rfl) h rfl
theorem nb_X0_has (g : Nat → Int32) (p0 : Int32) : nbo (fX0_has g p0) := by
  unfold fX0_has
  (repeat' split) <;> first | exact nar0 | exact nar1 | exact nar0
noncomputable def fX0_tell (G : Nat → Nat → Int32) (g : Nat → Int32) (p0 : Int32) (p1 : Int32) : Option (Int32 × (Nat → Nat → Int32) × (Nat → Int32)) := lt_ (g 5) (fun y3_1 => lt_ (uG G 1 (rPut 6 (G 1) y3_1 p0)) (fun G_2 => lt_ (uG G_2 2 (rPut 6 (G_2 2) y3_1 p1)) (fun G_3 => lt_ (uS g 5 (y3_1 + 1)) (fun g_4 => some (y3_1, G_3, g_4)))))
set_option maxHeartbeats 4000000 in
set_option maxRecDepth 100000 in
theorem c_X0_tell (l : Launch) (D : va_G) (cI cJ : ClassId) (a : Nat → Nat) (G : Nat → Nat → Int32) (g : Nat → Int32) (p0 : Int32) (p1 : Int32) (r' : Int32) (G' : Nat → Nat → Int32) (g' : Nat → Int32) (rs : va_W) (h : fX0_tell G g p0 p1 = some (r', G', g')) : Ci l yX0_tell wsX0_tell ({ frames := 1, cells := 0, slots := 0, locals := 22 } : Room) D cI cJ ([.ref (a 1), .int p0, .int p1] : List Value) (wl cI a G g ++ rs) r' (wl cI a G' g' ++ rs) := by
  refine Ci.mk (cc := cX0_tell) (maxL := 4) (ret := (some .int)) (by decide) rfl (Nat.le_of_ble_eq_true rfl) ?_
  intro p e s m below meth c A ls B hr hlk hK hN hA hP hD hl
  obtain ⟨hx, hb, hml, hown, hts⟩ := id B
  have hi_X0 : ∀ w ∈ wsX00, w ∈ wsX0_tell := fun _ h => List.mem_cons_of_mem _ (List.mem_append_left _ (List.mem_append_left _ (List.mem_append_right _ (h))))
  have hS : va_S A s.heap s.heap [] := va_S.rf
  have hl : lv_has ls 4 [(0, .ref (a 1)), (1, .int p0), (2, .int p1)] := hl
  unfold fX0_tell at h
  refine lv_aload_n hx hb dX0_tell_0 rfl (lv_at hl 0 rfl) ?_
  refine va_get (ci := 3) (v := .int (g 5)) (C := RX0) (T := TX0) (N := 6) hx hb hts hi_X0 hown hK hP 1 rfl rfl 5 (by decide) (hts (.fieldLink RX0 32 "WishWell$Lands" "size" "I") (List.mem_of_getElem? (i := 1) rfl)) (fun _ h9 => h9) rfl dX0_tell_1 ?_
  obtain ⟨y3_1, ey3_1, h⟩ := lt_I h
  rw [← ey3_1]
  refine lv_istore_n (lv' := [(3, .int y3_1), (0, .ref (a 1)), (1, .int p0), (2, .int p1)]) hx hb dX0_tell_4 rfl hl (by decide) rfl (fun ls hl => ?_)
  refine lv_aload_n hx hb dX0_tell_5 rfl (lv_at hl 1 rfl) ?_
  refine va_get (ci := 3) (v := .ref (a 5)) (C := RX0) (T := TX0) (N := 6) hx hb hts hi_X0 hown hK hP 1 rfl rfl 0 (by decide) (hts (.fieldLink RX0 14 "WishWell$Lands" "values" "LWishWell$Row;") (List.mem_of_getElem? (i := 2) rfl)) (fun _ h9 => h9) rfl dX0_tell_6 ?_
  refine lv_iload_n hx hb dX0_tell_9 rfl (lv_at hl 0 rfl) ?_
  refine lv_iload_n hx hb dX0_tell_10 rfl (lv_at hl 2 rfl) ?_
  refine kVv (As := [.int y3_1, .int p0]) (rest := []) B hK hN hP hD hS hA (c_X2_put l D cI cJ _ (wl cI a (uG G 1 (rPut 6 (G 1) y3_1 p0)) g ++ rs) _ _ 6 (G 1) 5 17 rfl rfl (by decide) y3_1 p0 rfl rfl) (cwV 2 hts gX0_tell_X2_put rfl rfl rfl (by decide +kernel) ⟨(Nat.le_of_ble_eq_true rfl), (Nat.le_of_ble_eq_true rfl)⟩) 5 5 rfl rfl rfl hl.1 rfl (Nat.le_of_ble_eq_true rfl) dX0_tell_11 ⟨(Nat.le_of_ble_eq_true rfl), (Nat.le_of_ble_eq_true rfl)⟩ rfl (fun H locs hP hD hS => ?_)
  obtain ⟨G_2, eG_2, h⟩ := lt_I h
  have hP : va_P D vwCl (wl cI a G_2 g ++ rs) H := by rw [eG_2]; exact hP
  have hD : va_D A (wl cI a G_2 g ++ rs) := by rw [eG_2]; exact hD
  refine lv_aload_n hx hb dX0_tell_14 rfl (lv_at hl 1 rfl) ?_
  refine va_get (ci := 3) (v := .ref (a 6)) (C := RX0) (T := TX0) (N := 6) hx hb hts hi_X0 hown hK hP 1 rfl rfl 1 (by decide) (hts (.fieldLink RX0 20 "WishWell$Lands" "weights" "LWishWell$Row;") (List.mem_of_getElem? (i := 3) rfl)) (fun _ h9 => h9) rfl dX0_tell_15 ?_
  refine lv_iload_n hx hb dX0_tell_18 rfl (lv_at hl 0 rfl) ?_
  refine lv_iload_n hx hb dX0_tell_19 rfl (lv_at hl 3 rfl) ?_
  refine kVv (As := [.int y3_1, .int p1]) (rest := []) B hK hN hP hD hS hA (c_X2_put l D cI cJ _ (wl cI a (uG G_2 2 (rPut 6 (G_2 2) y3_1 p1)) g ++ rs) _ _ 6 (G_2 2) 6 18 rfl rfl (by decide) y3_1 p1 rfl rfl) (cwV 2 hts gX0_tell_X2_put rfl rfl rfl (by decide +kernel) ⟨(Nat.le_of_ble_eq_true rfl), (Nat.le_of_ble_eq_true rfl)⟩) 5 6 rfl rfl rfl hl.1 rfl (Nat.le_of_ble_eq_true rfl) dX0_tell_20 ⟨(Nat.le_of_ble_eq_true rfl), (Nat.le_of_ble_eq_true rfl)⟩ rfl (fun H locs hP hD hS => ?_)
  obtain ⟨G_3, eG_3, h⟩ := lt_I h
  have hP : va_P D vwCl (wl cI a G_3 g ++ rs) H := by rw [eG_3]; exact hP
  have hD : va_D A (wl cI a G_3 g ++ rs) := by rw [eG_3]; exact hD
  refine lv_aload_n hx hb dX0_tell_23 rfl (lv_at hl 1 rfl) ?_
  refine lv_iload_n hx hb dX0_tell_24 rfl (lv_at hl 0 rfl) ?_
  refine lv_iconst (v := 1) hx hb dX0_tell_25 (by decide) ?_
  refine lv_iadd hx hb dX0_tell_26 ?_
  refine va_put (D := D) (ci := 3) (v := .int (y3_1 + 1)) (ty := .int) (C := RX0) (T := TX0) (N := 6) hx hb hts hi_X0 tyX0 tyX0_ok nmX0 hown hK hP hD hS 1 rfl rfl 5 (by decide) (hts (.fieldLink RX0 32 "WishWell$Lands" "size" "I") (List.mem_of_getElem? (i := 1) rfl)) (fun _ h9 => h9) rfl (by decide +kernel) rfl rfl (Nat.le_of_ble_eq_true rfl) dX0_tell_27 (fun H locs hP hD hS => ?_)
  obtain ⟨g_4, eg_4, h⟩ := lt_I h
  have hP : va_P D vwCl (wl cI a G_3 g_4 ++ rs) H := by rw [eg_4]; exact hP
  have hD : va_D A (wl cI a G_3 g_4 ++ rs) := by rw [eg_4]; exact hD
  refine lv_iload_n hx hb dX0_tell_30 rfl (lv_at hl 0 rfl) ?_
  obtain ⟨h0, h1, h2⟩ := o3 h
  exact eI hx hb hr hlk hP hS dX0_tell_31 (Nat.le_of_ble_eq_true rfl) (Nat.le_of_ble_eq_true rfl) h0 (by rw [h1, h2])
noncomputable def fX0_takeOver (G : Nat → Nat → Int32) (g : Nat → Int32) (J : Nat → Nat → Int32) (j : Nat → Int32) : Option ((Nat → Nat → Int32) × (Nat → Int32)) := lt_ (uG J 1 (rCp 6 (G 1) (J 1))) (fun J_1 => lt_ (uG J_1 2 (rCp 6 (G 2) (J_1 2))) (fun J_2 => lt_ (uG J_2 3 (rCp 6 (G 3) (J_2 3))) (fun J_3 => lt_ (uG J_3 4 (rCp 6 (G 4) (J_3 4))) (fun J_4 => lt_ (uG J_4 5 (rCp 6 (G 5) (J_4 5))) (fun J_5 => lt_ (uS j 5 (g 5)) (fun j_6 => some (J_5, j_6)))))))
set_option maxHeartbeats 4000000 in
set_option maxRecDepth 100000 in
theorem c_X0_takeOver (l : Launch) (D : va_G) (cI cJ : ClassId) (a b : Nat → Nat) (G : Nat → Nat → Int32) (g : Nat → Int32) (J : Nat → Nat → Int32) (j : Nat → Int32) (J' : Nat → Nat → Int32) (j' : Nat → Int32) (rs : va_W) (h : fX0_takeOver G g J j = some (J', j')) : Cv l yX0_takeOver wsX0_takeOver ({ frames := 2, cells := 0, slots := 0, locals := 81 } : Room) D cI cJ ([.ref (b 1), .ref (a 1)] : List Value) (wl cI b J j ++ (wl cI a G g ++ rs)) (wl cI b J' j' ++ (wl cI a G g ++ rs)) := by
  refine Cv.mk (cc := cX0_takeOver) (maxL := 2) (ret := none) (by decide) rfl (Nat.le_of_ble_eq_true rfl) ?_
  intro p e s m below meth c A ls B hr hlk hK hN hA hP hD hl
  obtain ⟨hx, hb, hml, hown, hts⟩ := id B
  have hi_X0 : ∀ w ∈ wsX00, w ∈ wsX0_takeOver := fun _ h => List.mem_cons_of_mem _ (List.mem_append_left _ (List.mem_append_right _ (h)))
  have hS : va_S A s.heap s.heap [] := va_S.rf
  have hl : lv_has ls 2 [(0, .ref (b 1)), (1, .ref (a 1))] := hl
  unfold fX0_takeOver at h
  refine lv_aload_n hx hb dX0_takeOver_0 rfl (lv_at hl 0 rfl) ?_
  refine va_get (ci := 3) (v := .ref (b 5)) (C := RX0) (T := TX0) (N := 6) hx hb hts hi_X0 hown hK hP 1 rfl rfl 0 (by decide) (hts (.fieldLink RX0 14 "WishWell$Lands" "values" "LWishWell$Row;") (List.mem_of_getElem? (i := 1) rfl)) (fun _ h9 => h9) rfl dX0_takeOver_1 ?_
  refine lv_aload_n hx hb dX0_takeOver_4 rfl (lv_at hl 1 rfl) ?_
  refine va_get (ci := 3) (v := .ref (a 5)) (C := RX0) (T := TX0) (N := 6) hx hb hts hi_X0 hown hK hP 29 rfl rfl 0 (by decide) (hts (.fieldLink RX0 14 "WishWell$Lands" "values" "LWishWell$Row;") (List.mem_of_getElem? (i := 1) rfl)) (fun _ h9 => h9) rfl dX0_takeOver_5 ?_
  refine kVv (As := [.ref (a 5)]) (rest := []) B hK hN hP hD hS hA (c_X2_takeOver l D cI cJ _ (wl cI b (uG J 1 (rCp 6 (G 1) (J 1))) j ++ (wl cI a G g ++ rs)) _ _ _ _ 6 (G 1) (J 1) 5 17 33 45 rfl rfl rfl rfl (by decide) rfl) (cwV 1 hts gX0_takeOver_X2_takeOver rfl rfl rfl (by decide +kernel) ⟨(Nat.le_of_ble_eq_true rfl), (Nat.le_of_ble_eq_true rfl)⟩) 5 5 rfl rfl rfl hl.1 rfl (Nat.le_of_ble_eq_true rfl) dX0_takeOver_8 ⟨(Nat.le_of_ble_eq_true rfl), (Nat.le_of_ble_eq_true rfl)⟩ rfl (fun H locs hP hD hS => ?_)
  obtain ⟨J_1, eJ_1, h⟩ := lt_I h
  have hP : va_P D vwCl (wl cI b J_1 j ++ (wl cI a G g ++ rs)) H := by rw [eJ_1]; exact hP
  have hD : va_D A (wl cI b J_1 j ++ (wl cI a G g ++ rs)) := by rw [eJ_1]; exact hD
  refine lv_aload_n hx hb dX0_takeOver_11 rfl (lv_at hl 0 rfl) ?_
  refine va_get (ci := 3) (v := .ref (b 6)) (C := RX0) (T := TX0) (N := 6) hx hb hts hi_X0 hown hK hP 1 rfl rfl 1 (by decide) (hts (.fieldLink RX0 20 "WishWell$Lands" "weights" "LWishWell$Row;") (List.mem_of_getElem? (i := 2) rfl)) (fun _ h9 => h9) rfl dX0_takeOver_12 ?_
  refine lv_aload_n hx hb dX0_takeOver_15 rfl (lv_at hl 1 rfl) ?_
  refine va_get (ci := 3) (v := .ref (a 6)) (C := RX0) (T := TX0) (N := 6) hx hb hts hi_X0 hown hK hP 29 rfl rfl 1 (by decide) (hts (.fieldLink RX0 20 "WishWell$Lands" "weights" "LWishWell$Row;") (List.mem_of_getElem? (i := 2) rfl)) (fun _ h9 => h9) rfl dX0_takeOver_16 ?_
  refine kVv (As := [.ref (a 6)]) (rest := []) B hK hN hP hD hS hA (c_X2_takeOver l D cI cJ _ (wl cI b (uG J_1 2 (rCp 6 (G 2) (J_1 2))) j ++ (wl cI a G g ++ rs)) _ _ _ _ 6 (G 2) (J_1 2) 6 18 34 46 rfl rfl rfl rfl (by decide) rfl) (cwV 1 hts gX0_takeOver_X2_takeOver rfl rfl rfl (by decide +kernel) ⟨(Nat.le_of_ble_eq_true rfl), (Nat.le_of_ble_eq_true rfl)⟩) 5 6 rfl rfl rfl hl.1 rfl (Nat.le_of_ble_eq_true rfl) dX0_takeOver_19 ⟨(Nat.le_of_ble_eq_true rfl), (Nat.le_of_ble_eq_true rfl)⟩ rfl (fun H locs hP hD hS => ?_)
  obtain ⟨J_2, eJ_2, h⟩ := lt_I h
  have hP : va_P D vwCl (wl cI b J_2 j ++ (wl cI a G g ++ rs)) H := by rw [eJ_2]; exact hP
  have hD : va_D A (wl cI b J_2 j ++ (wl cI a G g ++ rs)) := by rw [eJ_2]; exact hD
  refine lv_aload_n hx hb dX0_takeOver_22 rfl (lv_at hl 0 rfl) ?_
  refine va_get (ci := 3) (v := .ref (b 7)) (C := RX0) (T := TX0) (N := 6) hx hb hts hi_X0 hown hK hP 1 rfl rfl 2 (by decide) (hts (.fieldLink RX0 23 "WishWell$Lands" "thrown" "LWishWell$Row;") (List.mem_of_getElem? (i := 3) rfl)) (fun _ h9 => h9) rfl dX0_takeOver_23 ?_
  refine lv_aload_n hx hb dX0_takeOver_26 rfl (lv_at hl 1 rfl) ?_
  refine va_get (ci := 3) (v := .ref (a 7)) (C := RX0) (T := TX0) (N := 6) hx hb hts hi_X0 hown hK hP 29 rfl rfl 2 (by decide) (hts (.fieldLink RX0 23 "WishWell$Lands" "thrown" "LWishWell$Row;") (List.mem_of_getElem? (i := 3) rfl)) (fun _ h9 => h9) rfl dX0_takeOver_27 ?_
  refine kVv (As := [.ref (a 7)]) (rest := []) B hK hN hP hD hS hA (c_X2_takeOver l D cI cJ _ (wl cI b (uG J_2 3 (rCp 6 (G 3) (J_2 3))) j ++ (wl cI a G g ++ rs)) _ _ _ _ 6 (G 3) (J_2 3) 7 19 35 47 rfl rfl rfl rfl (by decide) rfl) (cwV 1 hts gX0_takeOver_X2_takeOver rfl rfl rfl (by decide +kernel) ⟨(Nat.le_of_ble_eq_true rfl), (Nat.le_of_ble_eq_true rfl)⟩) 5 7 rfl rfl rfl hl.1 rfl (Nat.le_of_ble_eq_true rfl) dX0_takeOver_30 ⟨(Nat.le_of_ble_eq_true rfl), (Nat.le_of_ble_eq_true rfl)⟩ rfl (fun H locs hP hD hS => ?_)
  obtain ⟨J_3, eJ_3, h⟩ := lt_I h
  have hP : va_P D vwCl (wl cI b J_3 j ++ (wl cI a G g ++ rs)) H := by rw [eJ_3]; exact hP
  have hD : va_D A (wl cI b J_3 j ++ (wl cI a G g ++ rs)) := by rw [eJ_3]; exact hD
  refine lv_aload_n hx hb dX0_takeOver_33 rfl (lv_at hl 0 rfl) ?_
  refine va_get (ci := 3) (v := .ref (b 8)) (C := RX0) (T := TX0) (N := 6) hx hb hts hi_X0 hown hK hP 1 rfl rfl 3 (by decide) (hts (.fieldLink RX0 26 "WishWell$Lands" "audited" "LWishWell$Row;") (List.mem_of_getElem? (i := 4) rfl)) (fun _ h9 => h9) rfl dX0_takeOver_34 ?_
  refine lv_aload_n hx hb dX0_takeOver_37 rfl (lv_at hl 1 rfl) ?_
  refine va_get (ci := 3) (v := .ref (a 8)) (C := RX0) (T := TX0) (N := 6) hx hb hts hi_X0 hown hK hP 29 rfl rfl 3 (by decide) (hts (.fieldLink RX0 26 "WishWell$Lands" "audited" "LWishWell$Row;") (List.mem_of_getElem? (i := 4) rfl)) (fun _ h9 => h9) rfl dX0_takeOver_38 ?_
  refine kVv (As := [.ref (a 8)]) (rest := []) B hK hN hP hD hS hA (c_X2_takeOver l D cI cJ _ (wl cI b (uG J_3 4 (rCp 6 (G 4) (J_3 4))) j ++ (wl cI a G g ++ rs)) _ _ _ _ 6 (G 4) (J_3 4) 8 20 36 48 rfl rfl rfl rfl (by decide) rfl) (cwV 1 hts gX0_takeOver_X2_takeOver rfl rfl rfl (by decide +kernel) ⟨(Nat.le_of_ble_eq_true rfl), (Nat.le_of_ble_eq_true rfl)⟩) 5 8 rfl rfl rfl hl.1 rfl (Nat.le_of_ble_eq_true rfl) dX0_takeOver_41 ⟨(Nat.le_of_ble_eq_true rfl), (Nat.le_of_ble_eq_true rfl)⟩ rfl (fun H locs hP hD hS => ?_)
  obtain ⟨J_4, eJ_4, h⟩ := lt_I h
  have hP : va_P D vwCl (wl cI b J_4 j ++ (wl cI a G g ++ rs)) H := by rw [eJ_4]; exact hP
  have hD : va_D A (wl cI b J_4 j ++ (wl cI a G g ++ rs)) := by rw [eJ_4]; exact hD
  refine lv_aload_n hx hb dX0_takeOver_44 rfl (lv_at hl 0 rfl) ?_
  refine va_get (ci := 3) (v := .ref (b 9)) (C := RX0) (T := TX0) (N := 6) hx hb hts hi_X0 hown hK hP 1 rfl rfl 4 (by decide) (hts (.fieldLink RX0 29 "WishWell$Lands" "takenBack" "LWishWell$Row;") (List.mem_of_getElem? (i := 5) rfl)) (fun _ h9 => h9) rfl dX0_takeOver_45 ?_
  refine lv_aload_n hx hb dX0_takeOver_48 rfl (lv_at hl 1 rfl) ?_
  refine va_get (ci := 3) (v := .ref (a 9)) (C := RX0) (T := TX0) (N := 6) hx hb hts hi_X0 hown hK hP 29 rfl rfl 4 (by decide) (hts (.fieldLink RX0 29 "WishWell$Lands" "takenBack" "LWishWell$Row;") (List.mem_of_getElem? (i := 5) rfl)) (fun _ h9 => h9) rfl dX0_takeOver_49 ?_
  refine kVv (As := [.ref (a 9)]) (rest := []) B hK hN hP hD hS hA (c_X2_takeOver l D cI cJ _ (wl cI b (uG J_4 5 (rCp 6 (G 5) (J_4 5))) j ++ (wl cI a G g ++ rs)) _ _ _ _ 6 (G 5) (J_4 5) 9 21 37 49 rfl rfl rfl rfl (by decide) rfl) (cwV 1 hts gX0_takeOver_X2_takeOver rfl rfl rfl (by decide +kernel) ⟨(Nat.le_of_ble_eq_true rfl), (Nat.le_of_ble_eq_true rfl)⟩) 5 9 rfl rfl rfl hl.1 rfl (Nat.le_of_ble_eq_true rfl) dX0_takeOver_52 ⟨(Nat.le_of_ble_eq_true rfl), (Nat.le_of_ble_eq_true rfl)⟩ rfl (fun H locs hP hD hS => ?_)
  obtain ⟨J_5, eJ_5, h⟩ := lt_I h
  have hP : va_P D vwCl (wl cI b J_5 j ++ (wl cI a G g ++ rs)) H := by rw [eJ_5]; exact hP
  have hD : va_D A (wl cI b J_5 j ++ (wl cI a G g ++ rs)) := by rw [eJ_5]; exact hD
  refine lv_aload_n hx hb dX0_takeOver_55 rfl (lv_at hl 0 rfl) ?_
  refine lv_aload_n hx hb dX0_takeOver_56 rfl (lv_at hl 1 rfl) ?_
  refine va_get (ci := 3) (v := .int (g 5)) (C := RX0) (T := TX0) (N := 6) hx hb hts hi_X0 hown hK hP 29 rfl rfl 5 (by decide) (hts (.fieldLink RX0 32 "WishWell$Lands" "size" "I") (List.mem_of_getElem? (i := 6) rfl)) (fun _ h9 => h9) rfl dX0_takeOver_57 ?_
  refine va_put (D := D) (ci := 3) (v := .int (g 5)) (ty := .int) (C := RX0) (T := TX0) (N := 6) hx hb hts hi_X0 tyX0 tyX0_ok nmX0 hown hK hP hD hS 1 rfl rfl 5 (by decide) (hts (.fieldLink RX0 32 "WishWell$Lands" "size" "I") (List.mem_of_getElem? (i := 6) rfl)) (fun _ h9 => h9) rfl (by decide +kernel) rfl rfl (Nat.le_of_ble_eq_true rfl) dX0_takeOver_60 (fun H locs hP hD hS => ?_)
  obtain ⟨j_6, ej_6, h⟩ := lt_I h
  have hP : va_P D vwCl (wl cI b J_5 j_6 ++ (wl cI a G g ++ rs)) H := by rw [ej_6]; exact hP
  have hD : va_D A (wl cI b J_5 j_6 ++ (wl cI a G g ++ rs)) := by rw [ej_6]; exact hD
  obtain ⟨h0, h1⟩ := o2 h
  exact eV hx hb hr hlk hP hS dX0_takeOver_63 (Nat.le_of_ble_eq_true rfl) (Nat.le_of_ble_eq_true rfl) (by rw [h0, h1])
noncomputable def fX4_has (g : Nat → Int32) (p0 : Int32) : Int32 := if p0 < 0 then (0) else (if (g 6) ≤ p0 then (0) else (1))
set_option maxHeartbeats 4000000 in
set_option maxRecDepth 100000 in
theorem c_X4_has (l : Launch) (D : va_G) (cI cJ : ClassId) (a : Nat → Nat) (G : Nat → Nat → Int32) (g : Nat → Int32) (p0 : Int32) (rs : va_W) (r' : Int32) (h : fX4_has g p0 = r') : Ci l yX4_has wsX4_has ({ frames := 0, cells := 0, slots := 0, locals := 0 } : Room) D cI cJ ([.ref (a 2), .int p0] : List Value) (wl cI a G g ++ rs) r' (wl cI a G g ++ rs) := by
  refine Ci.mk (cc := cX4_has) (maxL := 2) (ret := (some .boolean)) (by decide) rfl (Nat.le_of_ble_eq_true rfl) ?_
  intro p e s m below meth c A ls B hr hlk hK hN hA hP hD hl
  obtain ⟨hx, hb, hml, hown, hts⟩ := id B
  have hi_X4 : ∀ w ∈ wsX40, w ∈ wsX4_has := fun _ h => List.mem_cons_of_mem _ (List.mem_append_right _ (h))
  have hS : va_S A s.heap s.heap [] := va_S.rf
  have hl : lv_has ls 2 [(0, .ref (a 2)), (1, .int p0)] := hl
  unfold fX4_has at h
  refine lv_iload_n hx hb dX4_has_0 rfl (lv_at hl 1 rfl) ?_
  refine lv_if_lt (tgt := 16) hx hb dX4_has_1 (by decide) (fun c_1 => ?_) (fun c_1 => ?_)
  · have h := ip_ h c_1
    refine lv_iconst (v := 0) hx hb dX4_has_16 (by decide) ?_
    exact eZ hx hb hr nar0 hlk hP hS dX4_has_17 (Nat.le_of_ble_eq_true rfl) (Nat.le_of_ble_eq_true rfl) h rfl
  · have h := in_ h c_1
    refine lv_iload_n hx hb dX4_has_4 rfl (lv_at hl 1 rfl) ?_
    refine lv_aload_n hx hb dX4_has_5 rfl (lv_at hl 0 rfl) ?_
    refine va_get (ci := 7) (v := .int (g 6)) (C := RX4) (T := TX4) (N := 6) hx hb hts hi_X4 hown hK hP 2 rfl rfl 5 (by decide) (hts (.fieldLink RX4 32 "WishWell$Wishes" "size" "I") (List.mem_of_getElem? (i := 1) rfl)) (fun _ h9 => h9) rfl dX4_has_6 ?_
    refine lv_icmp_ge (tgt := 16) hx hb dX4_has_9 (by decide) (fun c_2 => ?_) (fun c_2 => ?_)
    · have h := ip_ h c_2
      refine lv_iconst (v := 0) hx hb dX4_has_16 (by decide) ?_
      exact eZ hx hb hr nar0 hlk hP hS dX4_has_17 (Nat.le_of_ble_eq_true rfl) (Nat.le_of_ble_eq_true rfl) h rfl
    · have h := in_ h c_2
      refine lv_iconst (v := 1) hx hb dX4_has_12 (by decide) ?_
      refine lv_goto (tgt := 17) hx hb dX4_has_13 (by decide) ?_
      exact eZ hx hb hr nar1 hlk hP hS dX4_has_17 (Nat.le_of_ble_eq_true rfl) (Nat.le_of_ble_eq_true rfl) h rfl
theorem nb_X4_has (g : Nat → Int32) (p0 : Int32) : nbo (fX4_has g p0) := by
  unfold fX4_has
  (repeat' split) <;> first | exact nar0 | exact nar1 | exact nar0
noncomputable def fX4_tell (G : Nat → Nat → Int32) (g : Nat → Int32) (p0 : Int32) (p1 : Int32) (p2 : Int32) : Option (Int32 × (Nat → Nat → Int32) × (Nat → Int32)) := lt_ (g 6) (fun y4_1 => lt_ (uG G 6 (rPut 24 (G 6) y4_1 p0)) (fun G_2 => lt_ (uG G_2 7 (rPut 24 (G_2 7) y4_1 p1)) (fun G_3 => lt_ (uG G_3 8 (rPut 24 (G_3 8) y4_1 p2)) (fun G_4 => lt_ (uG G_4 9 (rPut 24 (G_4 9) y4_1 0)) (fun G_5 => lt_ (uG G_5 10 (rPut 24 (G_5 10) y4_1 (-1))) (fun G_6 => lt_ (uS g 6 (y4_1 + 1)) (fun g_7 => some (y4_1, G_6, g_7))))))))
set_option maxHeartbeats 4000000 in
set_option maxRecDepth 100000 in
theorem c_X4_tell (l : Launch) (D : va_G) (cI cJ : ClassId) (a : Nat → Nat) (G : Nat → Nat → Int32) (g : Nat → Int32) (p0 : Int32) (p1 : Int32) (p2 : Int32) (r' : Int32) (G' : Nat → Nat → Int32) (g' : Nat → Int32) (rs : va_W) (h : fX4_tell G g p0 p1 p2 = some (r', G', g')) : Ci l yX4_tell wsX4_tell ({ frames := 1, cells := 0, slots := 0, locals := 22 } : Room) D cI cJ ([.ref (a 2), .int p0, .int p1, .int p2] : List Value) (wl cI a G g ++ rs) r' (wl cI a G' g' ++ rs) := by
  refine Ci.mk (cc := cX4_tell) (maxL := 5) (ret := (some .int)) (by decide) rfl (Nat.le_of_ble_eq_true rfl) ?_
  intro p e s m below meth c A ls B hr hlk hK hN hA hP hD hl
  obtain ⟨hx, hb, hml, hown, hts⟩ := id B
  have hi_X4 : ∀ w ∈ wsX40, w ∈ wsX4_tell := fun _ h => List.mem_cons_of_mem _ (List.mem_append_left _ (List.mem_append_left _ (List.mem_append_right _ (h))))
  have hS : va_S A s.heap s.heap [] := va_S.rf
  have hl : lv_has ls 5 [(0, .ref (a 2)), (1, .int p0), (2, .int p1), (3, .int p2)] := hl
  unfold fX4_tell at h
  refine lv_aload_n hx hb dX4_tell_0 rfl (lv_at hl 0 rfl) ?_
  refine va_get (ci := 7) (v := .int (g 6)) (C := RX4) (T := TX4) (N := 6) hx hb hts hi_X4 hown hK hP 2 rfl rfl 5 (by decide) (hts (.fieldLink RX4 32 "WishWell$Wishes" "size" "I") (List.mem_of_getElem? (i := 1) rfl)) (fun _ h9 => h9) rfl dX4_tell_1 ?_
  obtain ⟨y4_1, ey4_1, h⟩ := lt_I h
  rw [← ey4_1]
  refine lv_istore (lv' := [(4, .int y4_1), (0, .ref (a 2)), (1, .int p0), (2, .int p1), (3, .int p2)]) hx hb dX4_tell_4 hl (by decide) rfl (fun ls hl => ?_)
  refine lv_aload_n hx hb dX4_tell_6 rfl (lv_at hl 1 rfl) ?_
  refine va_get (ci := 7) (v := .ref (a 10)) (C := RX4) (T := TX4) (N := 6) hx hb hts hi_X4 hown hK hP 2 rfl rfl 0 (by decide) (hts (.fieldLink RX4 14 "WishWell$Wishes" "kinds" "LWishWell$Row;") (List.mem_of_getElem? (i := 2) rfl)) (fun _ h9 => h9) rfl dX4_tell_7 ?_
  refine lv_iload hx hb dX4_tell_10 (lv_at hl 0 rfl) ?_
  refine lv_iload_n hx hb dX4_tell_12 rfl (lv_at hl 2 rfl) ?_
  refine kVv (As := [.int y4_1, .int p0]) (rest := []) B hK hN hP hD hS hA (c_X2_put l D cI cJ _ (wl cI a (uG G 6 (rPut 24 (G 6) y4_1 p0)) g ++ rs) _ _ 24 (G 6) 10 22 rfl rfl (by decide) y4_1 p0 rfl rfl) (cwV 2 hts gX4_tell_X2_put rfl rfl rfl (by decide +kernel) ⟨(Nat.le_of_ble_eq_true rfl), (Nat.le_of_ble_eq_true rfl)⟩) 5 10 rfl rfl rfl hl.1 rfl (Nat.le_of_ble_eq_true rfl) dX4_tell_13 ⟨(Nat.le_of_ble_eq_true rfl), (Nat.le_of_ble_eq_true rfl)⟩ rfl (fun H locs hP hD hS => ?_)
  obtain ⟨G_2, eG_2, h⟩ := lt_I h
  have hP : va_P D vwCl (wl cI a G_2 g ++ rs) H := by rw [eG_2]; exact hP
  have hD : va_D A (wl cI a G_2 g ++ rs) := by rw [eG_2]; exact hD
  refine lv_aload_n hx hb dX4_tell_16 rfl (lv_at hl 1 rfl) ?_
  refine va_get (ci := 7) (v := .ref (a 11)) (C := RX4) (T := TX4) (N := 6) hx hb hts hi_X4 hown hK hP 2 rfl rfl 1 (by decide) (hts (.fieldLink RX4 20 "WishWell$Wishes" "coinLands" "LWishWell$Row;") (List.mem_of_getElem? (i := 3) rfl)) (fun _ h9 => h9) rfl dX4_tell_17 ?_
  refine lv_iload hx hb dX4_tell_20 (lv_at hl 0 rfl) ?_
  refine lv_iload_n hx hb dX4_tell_22 rfl (lv_at hl 3 rfl) ?_
  refine kVv (As := [.int y4_1, .int p1]) (rest := []) B hK hN hP hD hS hA (c_X2_put l D cI cJ _ (wl cI a (uG G_2 7 (rPut 24 (G_2 7) y4_1 p1)) g ++ rs) _ _ 24 (G_2 7) 11 23 rfl rfl (by decide) y4_1 p1 rfl rfl) (cwV 2 hts gX4_tell_X2_put rfl rfl rfl (by decide +kernel) ⟨(Nat.le_of_ble_eq_true rfl), (Nat.le_of_ble_eq_true rfl)⟩) 5 11 rfl rfl rfl hl.1 rfl (Nat.le_of_ble_eq_true rfl) dX4_tell_23 ⟨(Nat.le_of_ble_eq_true rfl), (Nat.le_of_ble_eq_true rfl)⟩ rfl (fun H locs hP hD hS => ?_)
  obtain ⟨G_3, eG_3, h⟩ := lt_I h
  have hP : va_P D vwCl (wl cI a G_3 g ++ rs) H := by rw [eG_3]; exact hP
  have hD : va_D A (wl cI a G_3 g ++ rs) := by rw [eG_3]; exact hD
  refine lv_aload_n hx hb dX4_tell_26 rfl (lv_at hl 1 rfl) ?_
  refine va_get (ci := 7) (v := .ref (a 12)) (C := RX4) (T := TX4) (N := 6) hx hb hts hi_X4 hown hK hP 2 rfl rfl 2 (by decide) (hts (.fieldLink RX4 23 "WishWell$Wishes" "thrownDays" "LWishWell$Row;") (List.mem_of_getElem? (i := 4) rfl)) (fun _ h9 => h9) rfl dX4_tell_27 ?_
  refine lv_iload hx hb dX4_tell_30 (lv_at hl 0 rfl) ?_
  refine lv_iload_n hx hb dX4_tell_32 rfl (lv_at hl 4 rfl) ?_
  refine kVv (As := [.int y4_1, .int p2]) (rest := []) B hK hN hP hD hS hA (c_X2_put l D cI cJ _ (wl cI a (uG G_3 8 (rPut 24 (G_3 8) y4_1 p2)) g ++ rs) _ _ 24 (G_3 8) 12 24 rfl rfl (by decide) y4_1 p2 rfl rfl) (cwV 2 hts gX4_tell_X2_put rfl rfl rfl (by decide +kernel) ⟨(Nat.le_of_ble_eq_true rfl), (Nat.le_of_ble_eq_true rfl)⟩) 5 12 rfl rfl rfl hl.1 rfl (Nat.le_of_ble_eq_true rfl) dX4_tell_33 ⟨(Nat.le_of_ble_eq_true rfl), (Nat.le_of_ble_eq_true rfl)⟩ rfl (fun H locs hP hD hS => ?_)
  obtain ⟨G_4, eG_4, h⟩ := lt_I h
  have hP : va_P D vwCl (wl cI a G_4 g ++ rs) H := by rw [eG_4]; exact hP
  have hD : va_D A (wl cI a G_4 g ++ rs) := by rw [eG_4]; exact hD
  refine lv_aload_n hx hb dX4_tell_36 rfl (lv_at hl 1 rfl) ?_
  refine va_get (ci := 7) (v := .ref (a 13)) (C := RX4) (T := TX4) (N := 6) hx hb hts hi_X4 hown hK hP 2 rfl rfl 3 (by decide) (hts (.fieldLink RX4 26 "WishWell$Wishes" "fates" "LWishWell$Row;") (List.mem_of_getElem? (i := 5) rfl)) (fun _ h9 => h9) rfl dX4_tell_37 ?_
  refine lv_iload hx hb dX4_tell_40 (lv_at hl 0 rfl) ?_
  refine lv_iconst (v := 0) hx hb dX4_tell_42 (by decide) ?_
  refine kVv (As := [.int y4_1, .int 0]) (rest := []) B hK hN hP hD hS hA (c_X2_put l D cI cJ _ (wl cI a (uG G_4 9 (rPut 24 (G_4 9) y4_1 0)) g ++ rs) _ _ 24 (G_4 9) 13 25 rfl rfl (by decide) y4_1 0 rfl rfl) (cwV 2 hts gX4_tell_X2_put rfl rfl rfl (by decide +kernel) ⟨(Nat.le_of_ble_eq_true rfl), (Nat.le_of_ble_eq_true rfl)⟩) 5 13 rfl rfl rfl hl.1 rfl (Nat.le_of_ble_eq_true rfl) dX4_tell_43 ⟨(Nat.le_of_ble_eq_true rfl), (Nat.le_of_ble_eq_true rfl)⟩ rfl (fun H locs hP hD hS => ?_)
  obtain ⟨G_5, eG_5, h⟩ := lt_I h
  have hP : va_P D vwCl (wl cI a G_5 g ++ rs) H := by rw [eG_5]; exact hP
  have hD : va_D A (wl cI a G_5 g ++ rs) := by rw [eG_5]; exact hD
  refine lv_aload_n hx hb dX4_tell_46 rfl (lv_at hl 1 rfl) ?_
  refine va_get (ci := 7) (v := .ref (a 14)) (C := RX4) (T := TX4) (N := 6) hx hb hts hi_X4 hown hK hP 2 rfl rfl 4 (by decide) (hts (.fieldLink RX4 29 "WishWell$Wishes" "grantDays" "LWishWell$Row;") (List.mem_of_getElem? (i := 6) rfl)) (fun _ h9 => h9) rfl dX4_tell_47 ?_
  refine lv_iload hx hb dX4_tell_50 (lv_at hl 0 rfl) ?_
  refine lv_iconst (v := (-1)) hx hb dX4_tell_52 (by decide) ?_
  refine kVv (As := [.int y4_1, .int (-1)]) (rest := []) B hK hN hP hD hS hA (c_X2_put l D cI cJ _ (wl cI a (uG G_5 10 (rPut 24 (G_5 10) y4_1 (-1))) g ++ rs) _ _ 24 (G_5 10) 14 26 rfl rfl (by decide) y4_1 (-1) rfl rfl) (cwV 2 hts gX4_tell_X2_put rfl rfl rfl (by decide +kernel) ⟨(Nat.le_of_ble_eq_true rfl), (Nat.le_of_ble_eq_true rfl)⟩) 5 14 rfl rfl rfl hl.1 rfl (Nat.le_of_ble_eq_true rfl) dX4_tell_53 ⟨(Nat.le_of_ble_eq_true rfl), (Nat.le_of_ble_eq_true rfl)⟩ rfl (fun H locs hP hD hS => ?_)
  obtain ⟨G_6, eG_6, h⟩ := lt_I h
  have hP : va_P D vwCl (wl cI a G_6 g ++ rs) H := by rw [eG_6]; exact hP
  have hD : va_D A (wl cI a G_6 g ++ rs) := by rw [eG_6]; exact hD
  refine lv_aload_n hx hb dX4_tell_56 rfl (lv_at hl 1 rfl) ?_
  refine lv_iload hx hb dX4_tell_57 (lv_at hl 0 rfl) ?_
  refine lv_iconst (v := 1) hx hb dX4_tell_59 (by decide) ?_
  refine lv_iadd hx hb dX4_tell_60 ?_
  refine va_put (D := D) (ci := 7) (v := .int (y4_1 + 1)) (ty := .int) (C := RX4) (T := TX4) (N := 6) hx hb hts hi_X4 tyX4 tyX4_ok nmX4 hown hK hP hD hS 2 rfl rfl 5 (by decide) (hts (.fieldLink RX4 32 "WishWell$Wishes" "size" "I") (List.mem_of_getElem? (i := 1) rfl)) (fun _ h9 => h9) rfl (by decide +kernel) rfl rfl (Nat.le_of_ble_eq_true rfl) dX4_tell_61 (fun H locs hP hD hS => ?_)
  obtain ⟨g_7, eg_7, h⟩ := lt_I h
  have hP : va_P D vwCl (wl cI a G_6 g_7 ++ rs) H := by rw [eg_7]; exact hP
  have hD : va_D A (wl cI a G_6 g_7 ++ rs) := by rw [eg_7]; exact hD
  refine lv_iload hx hb dX4_tell_64 (lv_at hl 0 rfl) ?_
  obtain ⟨h0, h1, h2⟩ := o3 h
  exact eI hx hb hr hlk hP hS dX4_tell_66 (Nat.le_of_ble_eq_true rfl) (Nat.le_of_ble_eq_true rfl) h0 (by rw [h1, h2])
noncomputable def fX4_waitsFor (G : Nat → Nat → Int32) (p0 : Int32) (p1 : Int32) : Int32 := if (rAt 24 (G 9) p0) = 0 then (if (rAt 24 (G 6) p0) = p1 then (1) else (0)) else (0)
set_option maxHeartbeats 4000000 in
set_option maxRecDepth 100000 in
theorem c_X4_waitsFor (l : Launch) (D : va_G) (cI cJ : ClassId) (a : Nat → Nat) (G : Nat → Nat → Int32) (g : Nat → Int32) (p0 : Int32) (p1 : Int32) (rs : va_W) (r' : Int32) (h : fX4_waitsFor G p0 p1 = r') : Ci l yX4_waitsFor wsX4_waitsFor ({ frames := 1, cells := 0, slots := 0, locals := 21 } : Room) D cI cJ ([.ref (a 2), .int p0, .int p1] : List Value) (wl cI a G g ++ rs) r' (wl cI a G g ++ rs) := by
  refine Ci.mk (cc := cX4_waitsFor) (maxL := 3) (ret := (some .boolean)) (by decide) rfl (Nat.le_of_ble_eq_true rfl) ?_
  intro p e s m below meth c A ls B hr hlk hK hN hA hP hD hl
  obtain ⟨hx, hb, hml, hown, hts⟩ := id B
  have hi_X4 : ∀ w ∈ wsX40, w ∈ wsX4_waitsFor := fun _ h => List.mem_cons_of_mem _ (List.mem_append_left _ (List.mem_append_left _ (List.mem_append_right _ (h))))
  have hS : va_S A s.heap s.heap [] := va_S.rf
  have hl : lv_has ls 3 [(0, .ref (a 2)), (1, .int p0), (2, .int p1)] := hl
  unfold fX4_waitsFor at h
  refine lv_aload_n hx hb dX4_waitsFor_0 rfl (lv_at hl 0 rfl) ?_
  refine va_get (ci := 7) (v := .ref (a 13)) (C := RX4) (T := TX4) (N := 6) hx hb hts hi_X4 hown hK hP 2 rfl rfl 3 (by decide) (hts (.fieldLink RX4 26 "WishWell$Wishes" "fates" "LWishWell$Row;") (List.mem_of_getElem? (i := 1) rfl)) (fun _ h9 => h9) rfl dX4_waitsFor_1 ?_
  refine lv_iload_n hx hb dX4_waitsFor_4 rfl (lv_at hl 1 rfl) ?_
  refine kVi (As := [.int p0]) (rest := []) B hK hN hP hD hS hA (c_X2_at l D cI cJ _ _ _ 24 (G 9) 13 25 rfl rfl (by decide) p0) (cwV 1 hts gX4_waitsFor_X2_at rfl rfl rfl (by decide +kernel) ⟨(Nat.le_of_ble_eq_true rfl), (Nat.le_of_ble_eq_true rfl)⟩) 5 13 rfl rfl rfl hl.1 rfl (Nat.le_of_ble_eq_true rfl) dX4_waitsFor_5 ⟨(Nat.le_of_ble_eq_true rfl), (Nat.le_of_ble_eq_true rfl)⟩ rfl (fun H locs hP hD hS => ?_)
  refine lv_if_ne (tgt := 27) hx hb dX4_waitsFor_8 (by decide) (fun c_1 => ?_) (fun c_1 => ?_)
  · have h := in_ h c_1
    refine lv_iconst (v := 0) hx hb dX4_waitsFor_27 (by decide) ?_
    exact eZ hx hb hr nar0 hlk hP hS dX4_waitsFor_28 (Nat.le_of_ble_eq_true rfl) (Nat.le_of_ble_eq_true rfl) h rfl
  · have h := ip_ h c_1
    refine lv_aload_n hx hb dX4_waitsFor_11 rfl (lv_at hl 0 rfl) ?_
    refine va_get (ci := 7) (v := .ref (a 10)) (C := RX4) (T := TX4) (N := 6) hx hb hts hi_X4 hown hK hP 2 rfl rfl 0 (by decide) (hts (.fieldLink RX4 14 "WishWell$Wishes" "kinds" "LWishWell$Row;") (List.mem_of_getElem? (i := 2) rfl)) (fun _ h9 => h9) rfl dX4_waitsFor_12 ?_
    refine lv_iload_n hx hb dX4_waitsFor_15 rfl (lv_at hl 1 rfl) ?_
    refine kVi (As := [.int p0]) (rest := []) B hK hN hP hD hS hA (c_X2_at l D cI cJ _ _ _ 24 (G 6) 10 22 rfl rfl (by decide) p0) (cwV 1 hts gX4_waitsFor_X2_at rfl rfl rfl (by decide +kernel) ⟨(Nat.le_of_ble_eq_true rfl), (Nat.le_of_ble_eq_true rfl)⟩) 5 10 rfl rfl rfl hl.1 rfl (Nat.le_of_ble_eq_true rfl) dX4_waitsFor_16 ⟨(Nat.le_of_ble_eq_true rfl), (Nat.le_of_ble_eq_true rfl)⟩ rfl (fun H locs hP hD hS => ?_)
    refine lv_iload_n hx hb dX4_waitsFor_19 rfl (lv_at hl 2 rfl) ?_
    refine lv_icmp_ne (tgt := 27) hx hb dX4_waitsFor_20 (by decide) (fun c_2 => ?_) (fun c_2 => ?_)
    · have h := in_ h c_2
      refine lv_iconst (v := 0) hx hb dX4_waitsFor_27 (by decide) ?_
      exact eZ hx hb hr nar0 hlk hP hS dX4_waitsFor_28 (Nat.le_of_ble_eq_true rfl) (Nat.le_of_ble_eq_true rfl) h rfl
    · have h := ip_ h c_2
      refine lv_iconst (v := 1) hx hb dX4_waitsFor_23 (by decide) ?_
      refine lv_goto (tgt := 28) hx hb dX4_waitsFor_24 (by decide) ?_
      exact eZ hx hb hr nar1 hlk hP hS dX4_waitsFor_28 (Nat.le_of_ble_eq_true rfl) (Nat.le_of_ble_eq_true rfl) h rfl
theorem nb_X4_waitsFor (G : Nat → Nat → Int32) (p0 : Int32) (p1 : Int32) : nbo (fX4_waitsFor G p0 p1) := by
  unfold fX4_waitsFor
  (repeat' split) <;> first | exact nar0 | exact nar1 | exact nar0
noncomputable def fX4_howMany_B4 (G : Nat → Nat → Int32) (g : Nat → Int32) (p0 : Int32) (x2_1 : Int32) (x3_1 : Int32)  : Option ((Int32 × Int32) ⊕ (Int32 × Int32)) := if (g 6) ≤ x3_1 then (some (.inr (x2_1, x3_1))) else (if (rAt 24 (G 9) x3_1) = p0 then (some (.inl (x2_1 + 1, x3_1 + 1))) else (some (.inl (x2_1, x3_1 + 1))))
noncomputable def fX4_howMany (G : Nat → Nat → Int32) (g : Nat → Int32) (p0 : Int32) : Option (Int32) := b2 (lp (fun s => fX4_howMany_B4 G g p0 s.1 s.2) 25 (0, 0)) (fun z2_1 z3_1 => some z2_1)
set_option maxHeartbeats 4000000 in
set_option maxRecDepth 100000 in
theorem c_X4_howMany (l : Launch) (D : va_G) (cI cJ : ClassId) (a : Nat → Nat) (G : Nat → Nat → Int32) (g : Nat → Int32) (p0 : Int32) (r' : Int32) (rs : va_W) (h : fX4_howMany G g p0 = some r') : Ci l yX4_howMany wsX4_howMany ({ frames := 1, cells := 0, slots := 0, locals := 21 } : Room) D cI cJ ([.ref (a 2), .int p0] : List Value) (wl cI a G g ++ rs) r' (wl cI a G g ++ rs) := by
  refine Ci.mk (cc := cX4_howMany) (maxL := 4) (ret := (some .int)) (by decide) rfl (Nat.le_of_ble_eq_true rfl) ?_
  intro p e s m below meth c A ls B hr hlk hK hN hA hP hD hl
  obtain ⟨hx, hb, hml, hown, hts⟩ := id B
  have hi_X4 : ∀ w ∈ wsX40, w ∈ wsX4_howMany := fun _ h => List.mem_cons_of_mem _ (List.mem_append_left _ (List.mem_append_left _ (List.mem_append_right _ (h))))
  have hS : va_S A s.heap s.heap [] := va_S.rf
  have hl : lv_has ls 4 [(0, .ref (a 2)), (1, .int p0)] := hl
  unfold fX4_howMany at h
  refine lv_iconst (v := 0) hx hb dX4_howMany_0 (by decide) ?_
  refine lv_istore_n (lv' := [(2, .int 0), (0, .ref (a 2)), (1, .int p0)]) hx hb dX4_howMany_1 rfl hl (by decide) rfl (fun ls hl => ?_)
  refine lv_iconst (v := 0) hx hb dX4_howMany_2 (by decide) ?_
  refine lv_istore_n (lv' := [(3, .int 0), (2, .int 0), (0, .ref (a 2)), (1, .int p0)]) hx hb dX4_howMany_3 rfl hl (by decide) rfl (fun ls hl => ?_)
  have L4_1 : ∀ (n : Nat) (x2_1 : Int32) (x3_1 : Int32)  (z2_1 : Int32) (z3_1 : Int32)  (_ : lp (fun s => fX4_howMany_B4 G g p0 s.1 s.2) n (x2_1, x3_1) = some (z2_1, z3_1)) (_ : ∀ (H : Heap) (locs : List Loc) (ls : Array Slot), va_P D vwCl (wl cI a G g ++ rs) H → va_D A (wl cI a G g ++ rs) → va_S A s.heap H locs → lv_has ls 4 [(0, .ref (a 2)), (1, .int p0), (2, .int z2_1), (3, .int z3_1)] → W p l e (headSpec wsX4_howMany ({ frames := 1, cells := 0, slots := 0, locals := 21 } : Room)).room s m ([.ref (a 2), .int p0] : List Value).toArray below meth c H locs (0) (0) (QI below D (wl cI a G g ++ rs) r' ([.ref (a 2), .int p0] : List Value).toArray s 0 0 A) (F0 m 33 ls [])) (H : Heap) (locs : List Loc) (ls : Array Slot), va_P D vwCl (wl cI a G g ++ rs) H → va_D A (wl cI a G g ++ rs) → va_S A s.heap H locs → lv_has ls 4 [(0, .ref (a 2)), (1, .int p0), (2, .int x2_1), (3, .int x3_1)] → W p l e (headSpec wsX4_howMany ({ frames := 1, cells := 0, slots := 0, locals := 21 } : Room)).room s m ([.ref (a 2), .int p0] : List Value).toArray below meth c H locs (0) (0) (QI below D (wl cI a G g ++ rs) r' ([.ref (a 2), .int p0] : List Value).toArray s 0 0 A) (F0 m 4 ls []) := by
    intro n
    induction n with
    | zero => intro x2_1 x3_1 z2_1 z3_1 h; exact (lp_0 h).elim
    | succ n ih =>
      intro x2_1 x3_1 z2_1 z3_1 h kk H locs ls hP hD hS hl
      obtain ⟨z, h, hz⟩ := lp_walk h
      have h : fX4_howMany_B4 G g p0 x2_1 x3_1 = some z := h
      unfold fX4_howMany_B4 at h
      refine lv_iload_n hx hb dX4_howMany_4 rfl (lv_at hl 3 rfl) ?_
      refine lv_aload_n hx hb dX4_howMany_5 rfl (lv_at hl 0 rfl) ?_
      refine va_get (ci := 7) (v := .int (g 6)) (C := RX4) (T := TX4) (N := 6) hx hb hts hi_X4 hown hK hP 2 rfl rfl 5 (by decide) (hts (.fieldLink RX4 32 "WishWell$Wishes" "size" "I") (List.mem_of_getElem? (i := 1) rfl)) (fun _ h9 => h9) rfl dX4_howMany_6 ?_
      refine lv_icmp_ge (tgt := 33) hx hb dX4_howMany_9 (by decide) (fun c_2 => ?_) (fun c_2 => ?_)
      · have h := ip_ h c_2
        cases lz_e h hz
        exact kk _ _ _ hP hD hS (lv_sub hl [0, 1, 2, 3] rfl)
      · have h := in_ h c_2
        refine lv_aload_n hx hb dX4_howMany_12 rfl (lv_at hl 0 rfl) ?_
        refine va_get (ci := 7) (v := .ref (a 13)) (C := RX4) (T := TX4) (N := 6) hx hb hts hi_X4 hown hK hP 2 rfl rfl 3 (by decide) (hts (.fieldLink RX4 26 "WishWell$Wishes" "fates" "LWishWell$Row;") (List.mem_of_getElem? (i := 2) rfl)) (fun _ h9 => h9) rfl dX4_howMany_13 ?_
        refine lv_iload_n hx hb dX4_howMany_16 rfl (lv_at hl 3 rfl) ?_
        refine kVi (As := [.int x3_1]) (rest := []) B hK hN hP hD hS hA (c_X2_at l D cI cJ _ _ _ 24 (G 9) 13 25 rfl rfl (by decide) x3_1) (cwV 1 hts gX4_howMany_X2_at rfl rfl rfl (by decide +kernel) ⟨(Nat.le_of_ble_eq_true rfl), (Nat.le_of_ble_eq_true rfl)⟩) 5 13 rfl rfl rfl hl.1 rfl (Nat.le_of_ble_eq_true rfl) dX4_howMany_17 ⟨(Nat.le_of_ble_eq_true rfl), (Nat.le_of_ble_eq_true rfl)⟩ rfl (fun H locs hP hD hS => ?_)
        refine lv_iload_n hx hb dX4_howMany_20 rfl (lv_at hl 1 rfl) ?_
        refine lv_icmp_ne (tgt := 27) hx hb dX4_howMany_21 (by decide) (fun c_3 => ?_) (fun c_3 => ?_)
        · have h := in_ h c_3
          refine lv_iinc (v := x3_1 + 1) (lv' := [(3, .int (x3_1 + 1)), (0, .ref (a 2)), (1, .int p0), (2, .int x2_1)]) hx hb dX4_howMany_27 hl (k := 3) rfl rfl (by decide) rfl (fun ls hl => ?_)
          refine lv_goto (tgt := 4) hx hb dX4_howMany_30 (by decide) ?_
          exact ih x2_1 (x3_1 + 1) _ _ (lz_c h hz) kk _ _ _ hP hD hS (lv_sub hl [1, 2, 3, 0] rfl)
        · have h := ip_ h c_3
          refine lv_iinc (v := x2_1 + 1) (lv' := [(2, .int (x2_1 + 1)), (0, .ref (a 2)), (1, .int p0), (3, .int x3_1)]) hx hb dX4_howMany_24 hl (k := 2) rfl rfl (by decide) rfl (fun ls hl => ?_)
          refine lv_iinc (v := x3_1 + 1) (lv' := [(3, .int (x3_1 + 1)), (2, .int (x2_1 + 1)), (0, .ref (a 2)), (1, .int p0)]) hx hb dX4_howMany_27 hl (k := 3) rfl rfl (by decide) rfl (fun ls hl => ?_)
          refine lv_goto (tgt := 4) hx hb dX4_howMany_30 (by decide) ?_
          exact ih (x2_1 + 1) (x3_1 + 1) _ _ (lz_c h hz) kk _ _ _ hP hD hS (lv_sub hl [2, 3, 1, 0] rfl)
  obtain ⟨z2_1, z3_1, hl_1, h⟩ := b2_I h
  refine L4_1 25 0 0  z2_1 z3_1 hl_1 (fun H locs ls hP hD hS hl => ?_) _ _ _ hP hD hS (lv_sub hl [2, 3, 1, 0] rfl)
  refine lv_iload_n hx hb dX4_howMany_33 rfl (lv_at hl 2 rfl) ?_
  have h0 := o1 h
  exact eI hx hb hr hlk hP hS dX4_howMany_34 (Nat.le_of_ble_eq_true rfl) (Nat.le_of_ble_eq_true rfl) h0 rfl
noncomputable def fX4_figure (G : Nat → Nat → Int32) (p0 : Int32) (p1 : Int32) : Int32 := if p1 = 0 then (rAt 24 (G 6) p0) else (if p1 = 1 then (rAt 24 (G 7) p0) else (if p1 = 2 then (rAt 24 (G 8) p0) else (if p1 = 3 then (rAt 24 (G 9) p0) else (rAt 24 (G 10) p0))))
set_option maxHeartbeats 4000000 in
set_option maxRecDepth 100000 in
theorem c_X4_figure (l : Launch) (D : va_G) (cI cJ : ClassId) (a : Nat → Nat) (G : Nat → Nat → Int32) (g : Nat → Int32) (p0 : Int32) (p1 : Int32) (rs : va_W) (r' : Int32) (h : fX4_figure G p0 p1 = r') : Ci l yX4_figure wsX4_figure ({ frames := 1, cells := 0, slots := 0, locals := 21 } : Room) D cI cJ ([.ref (a 2), .int p0, .int p1] : List Value) (wl cI a G g ++ rs) r' (wl cI a G g ++ rs) := by
  refine Ci.mk (cc := cX4_figure) (maxL := 3) (ret := (some .int)) (by decide) rfl (Nat.le_of_ble_eq_true rfl) ?_
  intro p e s m below meth c A ls B hr hlk hK hN hA hP hD hl
  obtain ⟨hx, hb, hml, hown, hts⟩ := id B
  have hi_X4 : ∀ w ∈ wsX40, w ∈ wsX4_figure := fun _ h => List.mem_cons_of_mem _ (List.mem_append_left _ (List.mem_append_left _ (List.mem_append_right _ (h))))
  have hS : va_S A s.heap s.heap [] := va_S.rf
  have hl : lv_has ls 3 [(0, .ref (a 2)), (1, .int p0), (2, .int p1)] := hl
  unfold fX4_figure at h
  refine lv_iload_n hx hb dX4_figure_0 rfl (lv_at hl 2 rfl) ?_
  by_cases c_1 : p1 = 0
  · have h := ip_ h c_1
    refine lv_tableIn (off := 31) (tgt := 32) hx hb dX4_figure_1 (by rw [c_1]; decide) (by rw [c_1]; decide) (by rw [c_1]; rfl) (by decide) ?_
    refine lv_aload_n hx hb dX4_figure_32 rfl (lv_at hl 0 rfl) ?_
    refine va_get (ci := 7) (v := .ref (a 10)) (C := RX4) (T := TX4) (N := 6) hx hb hts hi_X4 hown hK hP 2 rfl rfl 0 (by decide) (hts (.fieldLink RX4 14 "WishWell$Wishes" "kinds" "LWishWell$Row;") (List.mem_of_getElem? (i := 1) rfl)) (fun _ h9 => h9) rfl dX4_figure_33 ?_
    refine lv_iload_n hx hb dX4_figure_36 rfl (lv_at hl 1 rfl) ?_
    refine kVi (As := [.int p0]) (rest := []) B hK hN hP hD hS hA (c_X2_at l D cI cJ _ _ _ 24 (G 6) 10 22 rfl rfl (by decide) p0) (cwV 1 hts gX4_figure_X2_at rfl rfl rfl (by decide +kernel) ⟨(Nat.le_of_ble_eq_true rfl), (Nat.le_of_ble_eq_true rfl)⟩) 5 10 rfl rfl rfl hl.1 rfl (Nat.le_of_ble_eq_true rfl) dX4_figure_37 ⟨(Nat.le_of_ble_eq_true rfl), (Nat.le_of_ble_eq_true rfl)⟩ rfl (fun H locs hP hD hS => ?_)
    exact eI hx hb hr hlk hP hS dX4_figure_40 (Nat.le_of_ble_eq_true rfl) (Nat.le_of_ble_eq_true rfl) h rfl
  have h := in_ h c_1
  have tc_1 := sw_n 0 0 (by decide) c_1
  by_cases c_2 : p1 = 1
  · have h := ip_ h c_2
    refine lv_tableIn (off := 40) (tgt := 41) hx hb dX4_figure_1 (by rw [c_2]; decide) (by rw [c_2]; decide) (by rw [c_2]; rfl) (by decide) ?_
    refine lv_aload_n hx hb dX4_figure_41 rfl (lv_at hl 0 rfl) ?_
    refine va_get (ci := 7) (v := .ref (a 11)) (C := RX4) (T := TX4) (N := 6) hx hb hts hi_X4 hown hK hP 2 rfl rfl 1 (by decide) (hts (.fieldLink RX4 20 "WishWell$Wishes" "coinLands" "LWishWell$Row;") (List.mem_of_getElem? (i := 2) rfl)) (fun _ h9 => h9) rfl dX4_figure_42 ?_
    refine lv_iload_n hx hb dX4_figure_45 rfl (lv_at hl 1 rfl) ?_
    refine kVi (As := [.int p0]) (rest := []) B hK hN hP hD hS hA (c_X2_at l D cI cJ _ _ _ 24 (G 7) 11 23 rfl rfl (by decide) p0) (cwV 1 hts gX4_figure_X2_at rfl rfl rfl (by decide +kernel) ⟨(Nat.le_of_ble_eq_true rfl), (Nat.le_of_ble_eq_true rfl)⟩) 5 11 rfl rfl rfl hl.1 rfl (Nat.le_of_ble_eq_true rfl) dX4_figure_46 ⟨(Nat.le_of_ble_eq_true rfl), (Nat.le_of_ble_eq_true rfl)⟩ rfl (fun H locs hP hD hS => ?_)
    exact eI hx hb hr hlk hP hS dX4_figure_49 (Nat.le_of_ble_eq_true rfl) (Nat.le_of_ble_eq_true rfl) h rfl
  have h := in_ h c_2
  have tc_2 := sw_n 1 1 (by decide) c_2
  by_cases c_3 : p1 = 2
  · have h := ip_ h c_3
    refine lv_tableIn (off := 49) (tgt := 50) hx hb dX4_figure_1 (by rw [c_3]; decide) (by rw [c_3]; decide) (by rw [c_3]; rfl) (by decide) ?_
    refine lv_aload_n hx hb dX4_figure_50 rfl (lv_at hl 0 rfl) ?_
    refine va_get (ci := 7) (v := .ref (a 12)) (C := RX4) (T := TX4) (N := 6) hx hb hts hi_X4 hown hK hP 2 rfl rfl 2 (by decide) (hts (.fieldLink RX4 23 "WishWell$Wishes" "thrownDays" "LWishWell$Row;") (List.mem_of_getElem? (i := 3) rfl)) (fun _ h9 => h9) rfl dX4_figure_51 ?_
    refine lv_iload_n hx hb dX4_figure_54 rfl (lv_at hl 1 rfl) ?_
    refine kVi (As := [.int p0]) (rest := []) B hK hN hP hD hS hA (c_X2_at l D cI cJ _ _ _ 24 (G 8) 12 24 rfl rfl (by decide) p0) (cwV 1 hts gX4_figure_X2_at rfl rfl rfl (by decide +kernel) ⟨(Nat.le_of_ble_eq_true rfl), (Nat.le_of_ble_eq_true rfl)⟩) 5 12 rfl rfl rfl hl.1 rfl (Nat.le_of_ble_eq_true rfl) dX4_figure_55 ⟨(Nat.le_of_ble_eq_true rfl), (Nat.le_of_ble_eq_true rfl)⟩ rfl (fun H locs hP hD hS => ?_)
    exact eI hx hb hr hlk hP hS dX4_figure_58 (Nat.le_of_ble_eq_true rfl) (Nat.le_of_ble_eq_true rfl) h rfl
  have h := in_ h c_3
  have tc_3 := sw_n 2 2 (by decide) c_3
  by_cases c_4 : p1 = 3
  · have h := ip_ h c_4
    refine lv_tableIn (off := 58) (tgt := 59) hx hb dX4_figure_1 (by rw [c_4]; decide) (by rw [c_4]; decide) (by rw [c_4]; rfl) (by decide) ?_
    refine lv_aload_n hx hb dX4_figure_59 rfl (lv_at hl 0 rfl) ?_
    refine va_get (ci := 7) (v := .ref (a 13)) (C := RX4) (T := TX4) (N := 6) hx hb hts hi_X4 hown hK hP 2 rfl rfl 3 (by decide) (hts (.fieldLink RX4 26 "WishWell$Wishes" "fates" "LWishWell$Row;") (List.mem_of_getElem? (i := 4) rfl)) (fun _ h9 => h9) rfl dX4_figure_60 ?_
    refine lv_iload_n hx hb dX4_figure_63 rfl (lv_at hl 1 rfl) ?_
    refine kVi (As := [.int p0]) (rest := []) B hK hN hP hD hS hA (c_X2_at l D cI cJ _ _ _ 24 (G 9) 13 25 rfl rfl (by decide) p0) (cwV 1 hts gX4_figure_X2_at rfl rfl rfl (by decide +kernel) ⟨(Nat.le_of_ble_eq_true rfl), (Nat.le_of_ble_eq_true rfl)⟩) 5 13 rfl rfl rfl hl.1 rfl (Nat.le_of_ble_eq_true rfl) dX4_figure_64 ⟨(Nat.le_of_ble_eq_true rfl), (Nat.le_of_ble_eq_true rfl)⟩ rfl (fun H locs hP hD hS => ?_)
    exact eI hx hb hr hlk hP hS dX4_figure_67 (Nat.le_of_ble_eq_true rfl) (Nat.le_of_ble_eq_true rfl) h rfl
  have h := in_ h c_4
  have tc_4 := sw_n 3 3 (by decide) c_4
  refine lv_tableOut (tgt := 68) hx hb dX4_figure_1 (by omega) (by decide) ?_
  refine lv_aload_n hx hb dX4_figure_68 rfl (lv_at hl 0 rfl) ?_
  refine va_get (ci := 7) (v := .ref (a 14)) (C := RX4) (T := TX4) (N := 6) hx hb hts hi_X4 hown hK hP 2 rfl rfl 4 (by decide) (hts (.fieldLink RX4 29 "WishWell$Wishes" "grantDays" "LWishWell$Row;") (List.mem_of_getElem? (i := 5) rfl)) (fun _ h9 => h9) rfl dX4_figure_69 ?_
  refine lv_iload_n hx hb dX4_figure_72 rfl (lv_at hl 1 rfl) ?_
  refine kVi (As := [.int p0]) (rest := []) B hK hN hP hD hS hA (c_X2_at l D cI cJ _ _ _ 24 (G 10) 14 26 rfl rfl (by decide) p0) (cwV 1 hts gX4_figure_X2_at rfl rfl rfl (by decide +kernel) ⟨(Nat.le_of_ble_eq_true rfl), (Nat.le_of_ble_eq_true rfl)⟩) 5 14 rfl rfl rfl hl.1 rfl (Nat.le_of_ble_eq_true rfl) dX4_figure_73 ⟨(Nat.le_of_ble_eq_true rfl), (Nat.le_of_ble_eq_true rfl)⟩ rfl (fun H locs hP hD hS => ?_)
  exact eI hx hb hr hlk hP hS dX4_figure_76 (Nat.le_of_ble_eq_true rfl) (Nat.le_of_ble_eq_true rfl) h rfl
noncomputable def fX4_meanWait_B6 (G : Nat → Nat → Int32) (g : Nat → Int32) (x1_1 : Int32) (x2_1 : Int32) (x3_1 : Int32)  : Option ((Int32 × Int32 × Int32) ⊕ (Int32 × Int32 × Int32)) := if (g 6) ≤ x3_1 then (some (.inr (x1_1, x2_1, x3_1))) else (if (rAt 24 (G 9) x3_1) = 1 then (lt_ (x2_1 + ((rAt 24 (G 10) x3_1) - (rAt 24 (G 8) x3_1))) (fun y2_4 => some (.inl (x1_1 + 1, y2_4, x3_1 + 1)))) else (some (.inl (x1_1, x2_1, x3_1 + 1))))
noncomputable def fX4_meanWait (G : Nat → Nat → Int32) (g : Nat → Int32) : Option (UInt64) := b3 (lp (fun s => fX4_meanWait_B6 G g s.1 s.2.1 s.2.2) 25 (0, 0, 0)) (fun z1_1 z2_1 z3_1 => if z1_1 = 0 then (some 0) else (gd (vf_n64 (FP.ddiv (FP.i2d z2_1) (FP.i2d z1_1))) (some (FP.ddiv (FP.i2d z2_1) (FP.i2d z1_1)))))
set_option maxHeartbeats 4000000 in
set_option maxRecDepth 100000 in
theorem c_X4_meanWait (l : Launch) (D : va_G) (cI cJ : ClassId) (a : Nat → Nat) (G : Nat → Nat → Int32) (g : Nat → Int32) (r' : UInt64) (rs : va_W) (h : fX4_meanWait G g = some r') : Cd l yX4_meanWait wsX4_meanWait ({ frames := 1, cells := 0, slots := 0, locals := 21 } : Room) D cI cJ ([.ref (a 2)] : List Value) (wl cI a G g ++ rs) r' (wl cI a G g ++ rs) := by
  refine Cd.mk (cc := cX4_meanWait) (maxL := 4) (ret := (some .double)) (by decide) rfl (Nat.le_of_ble_eq_true rfl) ?_
  intro p e s m below meth c A ls B hr hlk hK hN hA hP hD hl
  obtain ⟨hx, hb, hml, hown, hts⟩ := id B
  have hi_X4 : ∀ w ∈ wsX40, w ∈ wsX4_meanWait := fun _ h => List.mem_cons_of_mem _ (List.mem_append_left _ (List.mem_append_left _ (List.mem_append_right _ (h))))
  have hS : va_S A s.heap s.heap [] := va_S.rf
  have hl : lv_has ls 4 [(0, .ref (a 2))] := hl
  unfold fX4_meanWait at h
  refine lv_iconst (v := 0) hx hb dX4_meanWait_0 (by decide) ?_
  refine lv_istore_n (lv' := [(1, .int 0), (0, .ref (a 2))]) hx hb dX4_meanWait_1 rfl hl (by decide) rfl (fun ls hl => ?_)
  refine lv_iconst (v := 0) hx hb dX4_meanWait_2 (by decide) ?_
  refine lv_istore_n (lv' := [(2, .int 0), (1, .int 0), (0, .ref (a 2))]) hx hb dX4_meanWait_3 rfl hl (by decide) rfl (fun ls hl => ?_)
  refine lv_iconst (v := 0) hx hb dX4_meanWait_4 (by decide) ?_
  refine lv_istore_n (lv' := [(3, .int 0), (2, .int 0), (1, .int 0), (0, .ref (a 2))]) hx hb dX4_meanWait_5 rfl hl (by decide) rfl (fun ls hl => ?_)
  have L6_1 : ∀ (n : Nat) (x1_1 : Int32) (x2_1 : Int32) (x3_1 : Int32)  (z1_1 : Int32) (z2_1 : Int32) (z3_1 : Int32)  (_ : lp (fun s => fX4_meanWait_B6 G g s.1 s.2.1 s.2.2) n (x1_1, x2_1, x3_1) = some (z1_1, z2_1, z3_1)) (_ : ∀ (H : Heap) (locs : List Loc) (ls : Array Slot), va_P D vwCl (wl cI a G g ++ rs) H → va_D A (wl cI a G g ++ rs) → va_S A s.heap H locs → lv_has ls 4 [(0, .ref (a 2)), (1, .int z1_1), (2, .int z2_1), (3, .int z3_1)] → W p l e (headSpec wsX4_meanWait ({ frames := 1, cells := 0, slots := 0, locals := 21 } : Room)).room s m ([.ref (a 2)] : List Value).toArray below meth c H locs (0) (0) (QD below D (wl cI a G g ++ rs) r' ([.ref (a 2)] : List Value).toArray s 0 0 A) (F0 m 55 ls [])) (H : Heap) (locs : List Loc) (ls : Array Slot), va_P D vwCl (wl cI a G g ++ rs) H → va_D A (wl cI a G g ++ rs) → va_S A s.heap H locs → lv_has ls 4 [(0, .ref (a 2)), (1, .int x1_1), (2, .int x2_1), (3, .int x3_1)] → W p l e (headSpec wsX4_meanWait ({ frames := 1, cells := 0, slots := 0, locals := 21 } : Room)).room s m ([.ref (a 2)] : List Value).toArray below meth c H locs (0) (0) (QD below D (wl cI a G g ++ rs) r' ([.ref (a 2)] : List Value).toArray s 0 0 A) (F0 m 6 ls []) := by
    intro n
    induction n with
    | zero => intro x1_1 x2_1 x3_1 z1_1 z2_1 z3_1 h; exact (lp_0 h).elim
    | succ n ih =>
      intro x1_1 x2_1 x3_1 z1_1 z2_1 z3_1 h kk H locs ls hP hD hS hl
      obtain ⟨z, h, hz⟩ := lp_walk h
      have h : fX4_meanWait_B6 G g x1_1 x2_1 x3_1 = some z := h
      unfold fX4_meanWait_B6 at h
      refine lv_iload_n hx hb dX4_meanWait_6 rfl (lv_at hl 3 rfl) ?_
      refine lv_aload_n hx hb dX4_meanWait_7 rfl (lv_at hl 0 rfl) ?_
      refine va_get (ci := 7) (v := .int (g 6)) (C := RX4) (T := TX4) (N := 6) hx hb hts hi_X4 hown hK hP 2 rfl rfl 5 (by decide) (hts (.fieldLink RX4 32 "WishWell$Wishes" "size" "I") (List.mem_of_getElem? (i := 1) rfl)) (fun _ h9 => h9) rfl dX4_meanWait_8 ?_
      refine lv_icmp_ge (tgt := 55) hx hb dX4_meanWait_11 (by decide) (fun c_2 => ?_) (fun c_2 => ?_)
      · have h := ip_ h c_2
        cases lz_e h hz
        exact kk _ _ _ hP hD hS (lv_sub hl [0, 1, 2, 3] rfl)
      · have h := in_ h c_2
        refine lv_aload_n hx hb dX4_meanWait_14 rfl (lv_at hl 0 rfl) ?_
        refine va_get (ci := 7) (v := .ref (a 13)) (C := RX4) (T := TX4) (N := 6) hx hb hts hi_X4 hown hK hP 2 rfl rfl 3 (by decide) (hts (.fieldLink RX4 26 "WishWell$Wishes" "fates" "LWishWell$Row;") (List.mem_of_getElem? (i := 2) rfl)) (fun _ h9 => h9) rfl dX4_meanWait_15 ?_
        refine lv_iload_n hx hb dX4_meanWait_18 rfl (lv_at hl 3 rfl) ?_
        refine kVi (As := [.int x3_1]) (rest := []) B hK hN hP hD hS hA (c_X2_at l D cI cJ _ _ _ 24 (G 9) 13 25 rfl rfl (by decide) x3_1) (cwV 1 hts gX4_meanWait_X2_at rfl rfl rfl (by decide +kernel) ⟨(Nat.le_of_ble_eq_true rfl), (Nat.le_of_ble_eq_true rfl)⟩) 5 13 rfl rfl rfl hl.1 rfl (Nat.le_of_ble_eq_true rfl) dX4_meanWait_19 ⟨(Nat.le_of_ble_eq_true rfl), (Nat.le_of_ble_eq_true rfl)⟩ rfl (fun H locs hP hD hS => ?_)
        refine lv_iconst (v := 1) hx hb dX4_meanWait_22 (by decide) ?_
        refine lv_icmp_ne (tgt := 49) hx hb dX4_meanWait_23 (by decide) (fun c_3 => ?_) (fun c_3 => ?_)
        · have h := in_ h c_3
          refine lv_iinc (v := x3_1 + 1) (lv' := [(3, .int (x3_1 + 1)), (0, .ref (a 2)), (1, .int x1_1), (2, .int x2_1)]) hx hb dX4_meanWait_49 hl (k := 3) rfl rfl (by decide) rfl (fun ls hl => ?_)
          refine lv_goto (tgt := 6) hx hb dX4_meanWait_52 (by decide) ?_
          exact ih x1_1 x2_1 (x3_1 + 1) _ _ _ (lz_c h hz) kk _ _ _ hP hD hS (lv_sub hl [1, 2, 3, 0] rfl)
        · have h := ip_ h c_3
          refine lv_iinc (v := x1_1 + 1) (lv' := [(1, .int (x1_1 + 1)), (0, .ref (a 2)), (2, .int x2_1), (3, .int x3_1)]) hx hb dX4_meanWait_26 hl (k := 1) rfl rfl (by decide) rfl (fun ls hl => ?_)
          refine lv_iload_n hx hb dX4_meanWait_29 rfl (lv_at hl 2 rfl) ?_
          refine lv_aload_n hx hb dX4_meanWait_30 rfl (lv_at hl 1 rfl) ?_
          refine va_get (ci := 7) (v := .ref (a 14)) (C := RX4) (T := TX4) (N := 6) hx hb hts hi_X4 hown hK hP 2 rfl rfl 4 (by decide) (hts (.fieldLink RX4 29 "WishWell$Wishes" "grantDays" "LWishWell$Row;") (List.mem_of_getElem? (i := 3) rfl)) (fun _ h9 => h9) rfl dX4_meanWait_31 ?_
          refine lv_iload_n hx hb dX4_meanWait_34 rfl (lv_at hl 3 rfl) ?_
          refine kVi (As := [.int x3_1]) (rest := [.int x2_1]) B hK hN hP hD hS hA (c_X2_at l D cI cJ _ _ _ 24 (G 10) 14 26 rfl rfl (by decide) x3_1) (cwV 1 hts gX4_meanWait_X2_at rfl rfl rfl (by decide +kernel) ⟨(Nat.le_of_ble_eq_true rfl), (Nat.le_of_ble_eq_true rfl)⟩) 5 14 rfl rfl rfl hl.1 rfl (Nat.le_of_ble_eq_true rfl) dX4_meanWait_35 ⟨(Nat.le_of_ble_eq_true rfl), (Nat.le_of_ble_eq_true rfl)⟩ rfl (fun H locs hP hD hS => ?_)
          refine lv_aload_n hx hb dX4_meanWait_38 rfl (lv_at hl 1 rfl) ?_
          refine va_get (ci := 7) (v := .ref (a 12)) (C := RX4) (T := TX4) (N := 6) hx hb hts hi_X4 hown hK hP 2 rfl rfl 2 (by decide) (hts (.fieldLink RX4 23 "WishWell$Wishes" "thrownDays" "LWishWell$Row;") (List.mem_of_getElem? (i := 4) rfl)) (fun _ h9 => h9) rfl dX4_meanWait_39 ?_
          refine lv_iload_n hx hb dX4_meanWait_42 rfl (lv_at hl 3 rfl) ?_
          refine kVi (As := [.int x3_1]) (rest := [.int (rAt 24 (G 10) x3_1), .int x2_1]) B hK hN hP hD hS hA (c_X2_at l D cI cJ _ _ _ 24 (G 8) 12 24 rfl rfl (by decide) x3_1) (cwV 1 hts gX4_meanWait_X2_at rfl rfl rfl (by decide +kernel) ⟨(Nat.le_of_ble_eq_true rfl), (Nat.le_of_ble_eq_true rfl)⟩) 5 12 rfl rfl rfl hl.1 rfl (Nat.le_of_ble_eq_true rfl) dX4_meanWait_43 ⟨(Nat.le_of_ble_eq_true rfl), (Nat.le_of_ble_eq_true rfl)⟩ rfl (fun H locs hP hD hS => ?_)
          refine lv_isub hx hb dX4_meanWait_46 ?_
          refine lv_iadd hx hb dX4_meanWait_47 ?_
          obtain ⟨y2_4, ey2_4, h⟩ := lt_I h
          rw [← ey2_4]
          refine lv_istore_n (lv' := [(2, .int y2_4), (1, .int (x1_1 + 1)), (0, .ref (a 2)), (3, .int x3_1)]) hx hb dX4_meanWait_48 rfl hl (by decide) rfl (fun ls hl => ?_)
          refine lv_iinc (v := x3_1 + 1) (lv' := [(3, .int (x3_1 + 1)), (2, .int y2_4), (1, .int (x1_1 + 1)), (0, .ref (a 2))]) hx hb dX4_meanWait_49 hl (k := 3) rfl rfl (by decide) rfl (fun ls hl => ?_)
          refine lv_goto (tgt := 6) hx hb dX4_meanWait_52 (by decide) ?_
          exact ih (x1_1 + 1) y2_4 (x3_1 + 1) _ _ _ (lz_c h hz) kk _ _ _ hP hD hS (lv_sub hl [3, 2, 1, 0] rfl)
  obtain ⟨z1_1, z2_1, z3_1, hl_1, h⟩ := b3_I h
  refine L6_1 25 0 0 0  z1_1 z2_1 z3_1 hl_1 (fun H locs ls hP hD hS hl => ?_) _ _ _ hP hD hS (lv_sub hl [3, 2, 1, 0] rfl)
  refine lv_iload_n hx hb dX4_meanWait_55 rfl (lv_at hl 1 rfl) ?_
  refine lv_if_ne (tgt := 63) hx hb dX4_meanWait_56 (by decide) (fun c_5 => ?_) (fun c_5 => ?_)
  · have h := in_ h c_5
    refine lv_iload_n hx hb dX4_meanWait_63 rfl (lv_at hl 2 rfl) ?_
    refine lv_i2d hx hb dX4_meanWait_64 ?_
    refine lv_iload_n hx hb dX4_meanWait_65 rfl (lv_at hl 1 rfl) ?_
    refine lv_i2d hx hb dX4_meanWait_66 ?_
    obtain ⟨c_6, h⟩ := gd_I h
    refine lv_ddiv hx hb dX4_meanWait_67 c_6 ?_
    have h0 := o1 h
    exact eD hx hb hr hlk hP hS dX4_meanWait_68 (Nat.le_of_ble_eq_true rfl) (Nat.le_of_ble_eq_true rfl) h0 rfl
  · have h := ip_ h c_5
    refine lv_dconst0 hx hb dX4_meanWait_59 ?_
    refine lv_goto (tgt := 68) hx hb dX4_meanWait_60 (by decide) ?_
    have h0 := o1 h
    exact eD hx hb hr hlk hP hS dX4_meanWait_68 (Nat.le_of_ble_eq_true rfl) (Nat.le_of_ble_eq_true rfl) h0 rfl
noncomputable def fX4_takeOver (G : Nat → Nat → Int32) (g : Nat → Int32) (J : Nat → Nat → Int32) (j : Nat → Int32) : Option ((Nat → Nat → Int32) × (Nat → Int32)) := lt_ (uG J 6 (rCp 24 (G 6) (J 6))) (fun J_1 => lt_ (uG J_1 7 (rCp 24 (G 7) (J_1 7))) (fun J_2 => lt_ (uG J_2 8 (rCp 24 (G 8) (J_2 8))) (fun J_3 => lt_ (uG J_3 9 (rCp 24 (G 9) (J_3 9))) (fun J_4 => lt_ (uG J_4 10 (rCp 24 (G 10) (J_4 10))) (fun J_5 => lt_ (uS j 6 (g 6)) (fun j_6 => some (J_5, j_6)))))))
set_option maxHeartbeats 4000000 in
set_option maxRecDepth 100000 in
theorem c_X4_takeOver (l : Launch) (D : va_G) (cI cJ : ClassId) (a b : Nat → Nat) (G : Nat → Nat → Int32) (g : Nat → Int32) (J : Nat → Nat → Int32) (j : Nat → Int32) (J' : Nat → Nat → Int32) (j' : Nat → Int32) (rs : va_W) (h : fX4_takeOver G g J j = some (J', j')) : Cv l yX4_takeOver wsX4_takeOver ({ frames := 2, cells := 0, slots := 0, locals := 81 } : Room) D cI cJ ([.ref (b 2), .ref (a 2)] : List Value) (wl cI b J j ++ (wl cI a G g ++ rs)) (wl cI b J' j' ++ (wl cI a G g ++ rs)) := by
  refine Cv.mk (cc := cX4_takeOver) (maxL := 2) (ret := none) (by decide) rfl (Nat.le_of_ble_eq_true rfl) ?_
  intro p e s m below meth c A ls B hr hlk hK hN hA hP hD hl
  obtain ⟨hx, hb, hml, hown, hts⟩ := id B
  have hi_X4 : ∀ w ∈ wsX40, w ∈ wsX4_takeOver := fun _ h => List.mem_cons_of_mem _ (List.mem_append_left _ (List.mem_append_right _ (h)))
  have hS : va_S A s.heap s.heap [] := va_S.rf
  have hl : lv_has ls 2 [(0, .ref (b 2)), (1, .ref (a 2))] := hl
  unfold fX4_takeOver at h
  refine lv_aload_n hx hb dX4_takeOver_0 rfl (lv_at hl 0 rfl) ?_
  refine va_get (ci := 7) (v := .ref (b 10)) (C := RX4) (T := TX4) (N := 6) hx hb hts hi_X4 hown hK hP 2 rfl rfl 0 (by decide) (hts (.fieldLink RX4 14 "WishWell$Wishes" "kinds" "LWishWell$Row;") (List.mem_of_getElem? (i := 1) rfl)) (fun _ h9 => h9) rfl dX4_takeOver_1 ?_
  refine lv_aload_n hx hb dX4_takeOver_4 rfl (lv_at hl 1 rfl) ?_
  refine va_get (ci := 7) (v := .ref (a 10)) (C := RX4) (T := TX4) (N := 6) hx hb hts hi_X4 hown hK hP 30 rfl rfl 0 (by decide) (hts (.fieldLink RX4 14 "WishWell$Wishes" "kinds" "LWishWell$Row;") (List.mem_of_getElem? (i := 1) rfl)) (fun _ h9 => h9) rfl dX4_takeOver_5 ?_
  refine kVv (As := [.ref (a 10)]) (rest := []) B hK hN hP hD hS hA (c_X2_takeOver l D cI cJ _ (wl cI b (uG J 6 (rCp 24 (G 6) (J 6))) j ++ (wl cI a G g ++ rs)) _ _ _ _ 24 (G 6) (J 6) 10 22 38 50 rfl rfl rfl rfl (by decide) rfl) (cwV 1 hts gX4_takeOver_X2_takeOver rfl rfl rfl (by decide +kernel) ⟨(Nat.le_of_ble_eq_true rfl), (Nat.le_of_ble_eq_true rfl)⟩) 5 10 rfl rfl rfl hl.1 rfl (Nat.le_of_ble_eq_true rfl) dX4_takeOver_8 ⟨(Nat.le_of_ble_eq_true rfl), (Nat.le_of_ble_eq_true rfl)⟩ rfl (fun H locs hP hD hS => ?_)
  obtain ⟨J_1, eJ_1, h⟩ := lt_I h
  have hP : va_P D vwCl (wl cI b J_1 j ++ (wl cI a G g ++ rs)) H := by rw [eJ_1]; exact hP
  have hD : va_D A (wl cI b J_1 j ++ (wl cI a G g ++ rs)) := by rw [eJ_1]; exact hD
  refine lv_aload_n hx hb dX4_takeOver_11 rfl (lv_at hl 0 rfl) ?_
  refine va_get (ci := 7) (v := .ref (b 11)) (C := RX4) (T := TX4) (N := 6) hx hb hts hi_X4 hown hK hP 2 rfl rfl 1 (by decide) (hts (.fieldLink RX4 20 "WishWell$Wishes" "coinLands" "LWishWell$Row;") (List.mem_of_getElem? (i := 2) rfl)) (fun _ h9 => h9) rfl dX4_takeOver_12 ?_
  refine lv_aload_n hx hb dX4_takeOver_15 rfl (lv_at hl 1 rfl) ?_
  refine va_get (ci := 7) (v := .ref (a 11)) (C := RX4) (T := TX4) (N := 6) hx hb hts hi_X4 hown hK hP 30 rfl rfl 1 (by decide) (hts (.fieldLink RX4 20 "WishWell$Wishes" "coinLands" "LWishWell$Row;") (List.mem_of_getElem? (i := 2) rfl)) (fun _ h9 => h9) rfl dX4_takeOver_16 ?_
  refine kVv (As := [.ref (a 11)]) (rest := []) B hK hN hP hD hS hA (c_X2_takeOver l D cI cJ _ (wl cI b (uG J_1 7 (rCp 24 (G 7) (J_1 7))) j ++ (wl cI a G g ++ rs)) _ _ _ _ 24 (G 7) (J_1 7) 11 23 39 51 rfl rfl rfl rfl (by decide) rfl) (cwV 1 hts gX4_takeOver_X2_takeOver rfl rfl rfl (by decide +kernel) ⟨(Nat.le_of_ble_eq_true rfl), (Nat.le_of_ble_eq_true rfl)⟩) 5 11 rfl rfl rfl hl.1 rfl (Nat.le_of_ble_eq_true rfl) dX4_takeOver_19 ⟨(Nat.le_of_ble_eq_true rfl), (Nat.le_of_ble_eq_true rfl)⟩ rfl (fun H locs hP hD hS => ?_)
  obtain ⟨J_2, eJ_2, h⟩ := lt_I h
  have hP : va_P D vwCl (wl cI b J_2 j ++ (wl cI a G g ++ rs)) H := by rw [eJ_2]; exact hP
  have hD : va_D A (wl cI b J_2 j ++ (wl cI a G g ++ rs)) := by rw [eJ_2]; exact hD
  refine lv_aload_n hx hb dX4_takeOver_22 rfl (lv_at hl 0 rfl) ?_
  refine va_get (ci := 7) (v := .ref (b 12)) (C := RX4) (T := TX4) (N := 6) hx hb hts hi_X4 hown hK hP 2 rfl rfl 2 (by decide) (hts (.fieldLink RX4 23 "WishWell$Wishes" "thrownDays" "LWishWell$Row;") (List.mem_of_getElem? (i := 3) rfl)) (fun _ h9 => h9) rfl dX4_takeOver_23 ?_
  refine lv_aload_n hx hb dX4_takeOver_26 rfl (lv_at hl 1 rfl) ?_
  refine va_get (ci := 7) (v := .ref (a 12)) (C := RX4) (T := TX4) (N := 6) hx hb hts hi_X4 hown hK hP 30 rfl rfl 2 (by decide) (hts (.fieldLink RX4 23 "WishWell$Wishes" "thrownDays" "LWishWell$Row;") (List.mem_of_getElem? (i := 3) rfl)) (fun _ h9 => h9) rfl dX4_takeOver_27 ?_
  refine kVv (As := [.ref (a 12)]) (rest := []) B hK hN hP hD hS hA (c_X2_takeOver l D cI cJ _ (wl cI b (uG J_2 8 (rCp 24 (G 8) (J_2 8))) j ++ (wl cI a G g ++ rs)) _ _ _ _ 24 (G 8) (J_2 8) 12 24 40 52 rfl rfl rfl rfl (by decide) rfl) (cwV 1 hts gX4_takeOver_X2_takeOver rfl rfl rfl (by decide +kernel) ⟨(Nat.le_of_ble_eq_true rfl), (Nat.le_of_ble_eq_true rfl)⟩) 5 12 rfl rfl rfl hl.1 rfl (Nat.le_of_ble_eq_true rfl) dX4_takeOver_30 ⟨(Nat.le_of_ble_eq_true rfl), (Nat.le_of_ble_eq_true rfl)⟩ rfl (fun H locs hP hD hS => ?_)
  obtain ⟨J_3, eJ_3, h⟩ := lt_I h
  have hP : va_P D vwCl (wl cI b J_3 j ++ (wl cI a G g ++ rs)) H := by rw [eJ_3]; exact hP
  have hD : va_D A (wl cI b J_3 j ++ (wl cI a G g ++ rs)) := by rw [eJ_3]; exact hD
  refine lv_aload_n hx hb dX4_takeOver_33 rfl (lv_at hl 0 rfl) ?_
  refine va_get (ci := 7) (v := .ref (b 13)) (C := RX4) (T := TX4) (N := 6) hx hb hts hi_X4 hown hK hP 2 rfl rfl 3 (by decide) (hts (.fieldLink RX4 26 "WishWell$Wishes" "fates" "LWishWell$Row;") (List.mem_of_getElem? (i := 4) rfl)) (fun _ h9 => h9) rfl dX4_takeOver_34 ?_
  refine lv_aload_n hx hb dX4_takeOver_37 rfl (lv_at hl 1 rfl) ?_
  refine va_get (ci := 7) (v := .ref (a 13)) (C := RX4) (T := TX4) (N := 6) hx hb hts hi_X4 hown hK hP 30 rfl rfl 3 (by decide) (hts (.fieldLink RX4 26 "WishWell$Wishes" "fates" "LWishWell$Row;") (List.mem_of_getElem? (i := 4) rfl)) (fun _ h9 => h9) rfl dX4_takeOver_38 ?_
  refine kVv (As := [.ref (a 13)]) (rest := []) B hK hN hP hD hS hA (c_X2_takeOver l D cI cJ _ (wl cI b (uG J_3 9 (rCp 24 (G 9) (J_3 9))) j ++ (wl cI a G g ++ rs)) _ _ _ _ 24 (G 9) (J_3 9) 13 25 41 53 rfl rfl rfl rfl (by decide) rfl) (cwV 1 hts gX4_takeOver_X2_takeOver rfl rfl rfl (by decide +kernel) ⟨(Nat.le_of_ble_eq_true rfl), (Nat.le_of_ble_eq_true rfl)⟩) 5 13 rfl rfl rfl hl.1 rfl (Nat.le_of_ble_eq_true rfl) dX4_takeOver_41 ⟨(Nat.le_of_ble_eq_true rfl), (Nat.le_of_ble_eq_true rfl)⟩ rfl (fun H locs hP hD hS => ?_)
  obtain ⟨J_4, eJ_4, h⟩ := lt_I h
  have hP : va_P D vwCl (wl cI b J_4 j ++ (wl cI a G g ++ rs)) H := by rw [eJ_4]; exact hP
  have hD : va_D A (wl cI b J_4 j ++ (wl cI a G g ++ rs)) := by rw [eJ_4]; exact hD
  refine lv_aload_n hx hb dX4_takeOver_44 rfl (lv_at hl 0 rfl) ?_
  refine va_get (ci := 7) (v := .ref (b 14)) (C := RX4) (T := TX4) (N := 6) hx hb hts hi_X4 hown hK hP 2 rfl rfl 4 (by decide) (hts (.fieldLink RX4 29 "WishWell$Wishes" "grantDays" "LWishWell$Row;") (List.mem_of_getElem? (i := 5) rfl)) (fun _ h9 => h9) rfl dX4_takeOver_45 ?_
  refine lv_aload_n hx hb dX4_takeOver_48 rfl (lv_at hl 1 rfl) ?_
  refine va_get (ci := 7) (v := .ref (a 14)) (C := RX4) (T := TX4) (N := 6) hx hb hts hi_X4 hown hK hP 30 rfl rfl 4 (by decide) (hts (.fieldLink RX4 29 "WishWell$Wishes" "grantDays" "LWishWell$Row;") (List.mem_of_getElem? (i := 5) rfl)) (fun _ h9 => h9) rfl dX4_takeOver_49 ?_
  refine kVv (As := [.ref (a 14)]) (rest := []) B hK hN hP hD hS hA (c_X2_takeOver l D cI cJ _ (wl cI b (uG J_4 10 (rCp 24 (G 10) (J_4 10))) j ++ (wl cI a G g ++ rs)) _ _ _ _ 24 (G 10) (J_4 10) 14 26 42 54 rfl rfl rfl rfl (by decide) rfl) (cwV 1 hts gX4_takeOver_X2_takeOver rfl rfl rfl (by decide +kernel) ⟨(Nat.le_of_ble_eq_true rfl), (Nat.le_of_ble_eq_true rfl)⟩) 5 14 rfl rfl rfl hl.1 rfl (Nat.le_of_ble_eq_true rfl) dX4_takeOver_52 ⟨(Nat.le_of_ble_eq_true rfl), (Nat.le_of_ble_eq_true rfl)⟩ rfl (fun H locs hP hD hS => ?_)
  obtain ⟨J_5, eJ_5, h⟩ := lt_I h
  have hP : va_P D vwCl (wl cI b J_5 j ++ (wl cI a G g ++ rs)) H := by rw [eJ_5]; exact hP
  have hD : va_D A (wl cI b J_5 j ++ (wl cI a G g ++ rs)) := by rw [eJ_5]; exact hD
  refine lv_aload_n hx hb dX4_takeOver_55 rfl (lv_at hl 0 rfl) ?_
  refine lv_aload_n hx hb dX4_takeOver_56 rfl (lv_at hl 1 rfl) ?_
  refine va_get (ci := 7) (v := .int (g 6)) (C := RX4) (T := TX4) (N := 6) hx hb hts hi_X4 hown hK hP 30 rfl rfl 5 (by decide) (hts (.fieldLink RX4 32 "WishWell$Wishes" "size" "I") (List.mem_of_getElem? (i := 6) rfl)) (fun _ h9 => h9) rfl dX4_takeOver_57 ?_
  refine va_put (D := D) (ci := 7) (v := .int (g 6)) (ty := .int) (C := RX4) (T := TX4) (N := 6) hx hb hts hi_X4 tyX4 tyX4_ok nmX4 hown hK hP hD hS 2 rfl rfl 5 (by decide) (hts (.fieldLink RX4 32 "WishWell$Wishes" "size" "I") (List.mem_of_getElem? (i := 6) rfl)) (fun _ h9 => h9) rfl (by decide +kernel) rfl rfl (Nat.le_of_ble_eq_true rfl) dX4_takeOver_60 (fun H locs hP hD hS => ?_)
  obtain ⟨j_6, ej_6, h⟩ := lt_I h
  have hP : va_P D vwCl (wl cI b J_5 j_6 ++ (wl cI a G g ++ rs)) H := by rw [ej_6]; exact hP
  have hD : va_D A (wl cI b J_5 j_6 ++ (wl cI a G g ++ rs)) := by rw [ej_6]; exact hD
  obtain ⟨h0, h1⟩ := o2 h
  exact eV hx hb hr hlk hP hS dX4_takeOver_63 (Nat.le_of_ble_eq_true rfl) (Nat.le_of_ble_eq_true rfl) (by rw [h0, h1])
