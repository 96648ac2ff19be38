/-! laid by wip/whole/gen.py -/
noncomputable def fX3_raiseFavour (g : Nat → Int32) (p0 : Int32) : Option ((Nat → Int32)) := lt_ (uS g 1 (if ((g 1) + p0) < 500 then (g 1) + p0 else 500)) (fun g_1 => some g_1)
set_option maxHeartbeats 4000000 in
set_option maxRecDepth 100000 in
theorem c_X3_raiseFavour (l : Launch) (D : va_G) (cI cJ : ClassId) (a : Nat → Nat) (G : Nat → Nat → Int32) (g : Nat → Int32) (p0 : Int32) (g' : Nat → Int32) (rs : va_W) (h : fX3_raiseFavour g p0 = some g') : Cv l yX3_raiseFavour wsX3_raiseFavour ({ frames := 1, cells := 0, slots := 0, locals := 21 } : Room) D cI cJ ([.ref (a 0), .int p0] : List Value) (wl cI a G g ++ rs) (wl cI a G g' ++ rs) := by
  refine Cv.mk (cc := cX3_raiseFavour) (maxL := 2) (ret := none) (by decide) rfl (Nat.le_of_ble_eq_true rfl) ?_
  intro p e s m below meth c A ls B hr hlk hK hN hA hP hD hl
  obtain ⟨hx, hb, hml, hown, hts⟩ := id B
  have hi_X3 : ∀ w ∈ wsX30, w ∈ wsX3_raiseFavour := fun _ h => List.mem_cons_of_mem _ (List.mem_append_right _ (h))
  have hS : va_S A s.heap s.heap [] := va_S.rf
  have hl : lv_has ls 2 [(0, .ref (a 0)), (1, .int p0)] := hl
  unfold fX3_raiseFavour at h
  refine lv_aload_n hx hb dX3_raiseFavour_0 rfl (lv_at hl 0 rfl) ?_
  refine lv_sipush (v := 500) hx hb dX3_raiseFavour_1 (by decide) ?_
  refine lv_aload_n hx hb dX3_raiseFavour_4 rfl (lv_at hl 0 rfl) ?_
  refine va_get (ci := 6) (v := .int (g 1)) (C := RX3) (T := TX3) (N := 9) hx hb hts hi_X3 hown hK hP 0 rfl rfl 5 (by decide) (hts (.fieldLink RX3 41 "WishWell$Well" "favour" "I") (List.mem_of_getElem? (i := 1) rfl)) (fun _ h9 => h9) rfl dX3_raiseFavour_5 ?_
  refine lv_iload_n hx hb dX3_raiseFavour_8 rfl (lv_at hl 1 rfl) ?_
  refine lv_iadd hx hb dX3_raiseFavour_9 ?_
  refine va_mmin hx hb (hml.trans hl.1.symm) hown (hts (.methodLink RX3 65 Lib.Math.min.name) (List.mem_of_getElem? (i := 2) rfl)) (hts (.static Lib.Math.min.name) (List.mem_of_getElem? (i := 3) rfl)) (hts (.initialized "java/lang/Math") (List.mem_of_getElem? (i := 4) rfl)) (hts (.code Lib.Math.min.name Lib.Math.min.code 2 (some .int)) (List.mem_of_getElem? (i := 5) rfl)) (Nat.le_of_ble_eq_true rfl) (Nat.le_of_ble_eq_true rfl) (Nat.le_of_ble_eq_true rfl) (Nat.le_of_ble_eq_true rfl) dX3_raiseFavour_10 ?_
  refine va_put (D := D) (ci := 6) (v := .int (if ((g 1) + p0) < 500 then (g 1) + p0 else 500)) (ty := .int) (C := RX3) (T := TX3) (N := 9) hx hb hts hi_X3 tyX3 tyX3_ok nmX3 hown hK hP hD hS 0 rfl rfl 5 (by decide) (hts (.fieldLink RX3 41 "WishWell$Well" "favour" "I") (List.mem_of_getElem? (i := 1) rfl)) (fun _ h9 => h9) rfl (by decide +kernel) rfl rfl (Nat.le_of_ble_eq_true rfl) dX3_raiseFavour_13 (fun H locs hP hD hS => ?_)
  obtain ⟨g_1, eg_1, h⟩ := lt_I h
  have hP : va_P D vwCl (wl cI a G g_1 ++ rs) H := by rw [eg_1]; exact hP
  have hD : va_D A (wl cI a G g_1 ++ rs) := by rw [eg_1]; exact hD
  have h0 := o1 h
  exact eV hx hb hr hlk hP hS dX3_raiseFavour_16 (Nat.le_of_ble_eq_true rfl) (Nat.le_of_ble_eq_true rfl) (by rw [h0])
noncomputable def fX3_throwCoin (G : Nat → Nat → Int32) (g : Nat → Int32) (p0 : Int32) : Option ((Nat → Nat → Int32) × (Nat → Int32)) := Option.bind (fX1_add G 0 p0 1) (fun G_1 => lt_ (uG G_1 3 (rAdd 6 (G_1 3) p0 1)) (fun G_3 => Option.bind (fX3_raiseFavour g ((rAt 6 (G_3 1) p0) / 10)) (fun g_4 => some (G_3, g_4))))
set_option maxHeartbeats 4000000 in
set_option maxRecDepth 100000 in
theorem c_X3_throwCoin (l : Launch) (D : va_G) (cI cJ : ClassId) (a : Nat → Nat) (G : Nat → Nat → Int32) (g : Nat → Int32) (p0 : Int32) (G' : Nat → Nat → Int32) (g' : Nat → Int32) (rs : va_W) (h : fX3_throwCoin G g p0 = some (G', g')) : Cv l yX3_throwCoin wsX3_throwCoin ({ frames := 2, cells := 0, slots := 0, locals := 45 } : Room) D cI cJ ([.ref (a 0), .int p0] : List Value) (wl cI a G g ++ rs) (wl cI a G' g' ++ rs) := by
  refine Cv.mk (cc := cX3_throwCoin) (maxL := 2) (ret := none) (by decide) rfl (Nat.le_of_ble_eq_true rfl) ?_
  intro p e s m below meth c A ls B hr hlk hK hN hA hP hD hl
  obtain ⟨hx, hb, hml, hown, hts⟩ := id B
  have hi_X0 : ∀ w ∈ wsX00, w ∈ wsX3_throwCoin := fun _ h => List.mem_cons_of_mem _ (List.mem_append_left _ (List.mem_append_left _ (List.mem_append_left _ (List.mem_append_right _ (h)))))
  have hi_X3 : ∀ w ∈ wsX30, w ∈ wsX3_throwCoin := fun _ h => List.mem_cons_of_mem _ (List.mem_append_left _ (List.mem_append_left _ (List.mem_append_left _ (List.mem_append_left _ (List.mem_append_right _ (h))))))
  have hS : va_S A s.heap s.heap [] := va_S.rf
  have hl : lv_has ls 2 [(0, .ref (a 0)), (1, .int p0)] := hl
  unfold fX3_throwCoin at h
  refine lv_aload_n hx hb dX3_throwCoin_0 rfl (lv_at hl 0 rfl) ?_
  refine va_get (ci := 6) (v := .ref (a 3)) (C := RX3) (T := TX3) (N := 9) hx hb hts hi_X3 hown hK hP 0 rfl rfl 2 (by decide) (hts (.fieldLink RX3 28 "WishWell$Well" "layers" "LWishWell$Layers;") (List.mem_of_getElem? (i := 1) rfl)) (fun _ h9 => h9) rfl dX3_throwCoin_1 ?_
  refine lv_iconst (v := 0) hx hb dX3_throwCoin_4 (by decide) ?_
  refine lv_iload_n hx hb dX3_throwCoin_5 rfl (lv_at hl 1 rfl) ?_
  refine lv_iconst (v := 1) hx hb dX3_throwCoin_6 (by decide) ?_
  obtain ⟨G_1, hx_2, h⟩ := bd_I h
  refine kVv (As := [.int 0, .int p0, .int 1]) (rest := []) B hK hN hP hD hS hA (c_X1_add l D cI cJ a G g 0 p0 1 G_1 rs hx_2) (cwV 3 hts gX3_throwCoin_X1_add rfl rfl rfl (by decide +kernel) ⟨(Nat.le_of_ble_eq_true rfl), (Nat.le_of_ble_eq_true rfl)⟩) 4 3 rfl rfl rfl hl.1 rfl (Nat.le_of_ble_eq_true rfl) dX3_throwCoin_7 ⟨(Nat.le_of_ble_eq_true rfl), (Nat.le_of_ble_eq_true rfl)⟩ rfl (fun H locs hP hD hS => ?_)
  refine lv_aload_n hx hb dX3_throwCoin_10 rfl (lv_at hl 0 rfl) ?_
  refine va_get (ci := 6) (v := .ref (a 1)) (C := RX3) (T := TX3) (N := 9) hx hb hts hi_X3 hown hK hP 0 rfl rfl 0 (by decide) (hts (.fieldLink RX3 12 "WishWell$Well" "lands" "LWishWell$Lands;") (List.mem_of_getElem? (i := 2) rfl)) (fun _ h9 => h9) rfl dX3_throwCoin_11 ?_
  refine va_get (ci := 3) (v := .ref (a 7)) (C := RX0) (T := TX0) (N := 6) hx hb hts hi_X0 hown hK hP 1 rfl rfl 2 (by decide) (hts (.fieldLink RX3 49 "WishWell$Lands" "thrown" "LWishWell$Row;") (List.mem_of_getElem? (i := 3) rfl)) (fun _ h9 => h9) rfl dX3_throwCoin_14 ?_
  refine lv_iload_n hx hb dX3_throwCoin_17 rfl (lv_at hl 1 rfl) ?_
  refine lv_iconst (v := 1) hx hb dX3_throwCoin_18 (by decide) ?_
  refine kVv (As := [.int p0, .int 1]) (rest := []) B hK hN hP hD hS hA (c_X2_add l D cI cJ _ (wl cI a (uG G_1 3 (rAdd 6 (G_1 3) p0 1)) g ++ rs) _ _ 6 (G_1 3) 7 19 rfl rfl (by decide) p0 1 rfl rfl) (cwV 2 hts gX3_throwCoin_X2_add rfl rfl rfl (by decide +kernel) ⟨(Nat.le_of_ble_eq_true rfl), (Nat.le_of_ble_eq_true rfl)⟩) 5 7 rfl rfl rfl hl.1 rfl (Nat.le_of_ble_eq_true rfl) dX3_throwCoin_19 ⟨(Nat.le_of_ble_eq_true rfl), (Nat.le_of_ble_eq_true rfl)⟩ rfl (fun H locs hP hD hS => ?_)
  obtain ⟨G_3, eG_3, h⟩ := lt_I h
  have hP : va_P D vwCl (wl cI a G_3 g ++ rs) H := by rw [eG_3]; exact hP
  have hD : va_D A (wl cI a G_3 g ++ rs) := by rw [eG_3]; exact hD
  refine lv_aload_n hx hb dX3_throwCoin_22 rfl (lv_at hl 0 rfl) ?_
  refine lv_aload_n hx hb dX3_throwCoin_23 rfl (lv_at hl 0 rfl) ?_
  refine va_get (ci := 6) (v := .ref (a 1)) (C := RX3) (T := TX3) (N := 9) hx hb hts hi_X3 hown hK hP 0 rfl rfl 0 (by decide) (hts (.fieldLink RX3 12 "WishWell$Well" "lands" "LWishWell$Lands;") (List.mem_of_getElem? (i := 2) rfl)) (fun _ h9 => h9) rfl dX3_throwCoin_24 ?_
  refine va_get (ci := 3) (v := .ref (a 5)) (C := RX0) (T := TX0) (N := 6) hx hb hts hi_X0 hown hK hP 1 rfl rfl 0 (by decide) (hts (.fieldLink RX3 55 "WishWell$Lands" "values" "LWishWell$Row;") (List.mem_of_getElem? (i := 4) rfl)) (fun _ h9 => h9) rfl dX3_throwCoin_27 ?_
  refine lv_iload_n hx hb dX3_throwCoin_30 rfl (lv_at hl 1 rfl) ?_
  refine kVi (As := [.int p0]) (rest := [.ref (a 0)]) B hK hN hP hD hS hA (c_X2_at l D cI cJ _ _ _ 6 (G_3 1) 5 17 rfl rfl (by decide) p0) (cwV 1 hts gX3_throwCoin_X2_at rfl rfl rfl (by decide +kernel) ⟨(Nat.le_of_ble_eq_true rfl), (Nat.le_of_ble_eq_true rfl)⟩) 5 5 rfl rfl rfl hl.1 rfl (Nat.le_of_ble_eq_true rfl) dX3_throwCoin_31 ⟨(Nat.le_of_ble_eq_true rfl), (Nat.le_of_ble_eq_true rfl)⟩ rfl (fun H locs hP hD hS => ?_)
  refine lv_bipush (v := 10) hx hb dX3_throwCoin_34 (by decide) ?_
  refine lv_idiv hx hb dX3_throwCoin_36 (by decide) ?_
  obtain ⟨g_4, hx_5, h⟩ := bd_I h
  refine kVv (As := [.int ((rAt 6 (G_3 1) p0) / 10)]) (rest := []) B hK hN hP hD hS hA (c_X3_raiseFavour l D cI cJ a G_3 g ((rAt 6 (G_3 1) p0) / 10) g_4 rs hx_5) (cwV 1 hts gX3_throwCoin_X3_raiseFavour rfl rfl rfl (by decide +kernel) ⟨(Nat.le_of_ble_eq_true rfl), (Nat.le_of_ble_eq_true rfl)⟩) 6 0 rfl rfl rfl hl.1 rfl (Nat.le_of_ble_eq_true rfl) dX3_throwCoin_37 ⟨(Nat.le_of_ble_eq_true rfl), (Nat.le_of_ble_eq_true rfl)⟩ rfl (fun H locs hP hD hS => ?_)
  obtain ⟨h0, h1⟩ := o2 h
  exact eV hx hb hr hlk hP hS dX3_throwCoin_40 (Nat.le_of_ble_eq_true rfl) (Nat.le_of_ble_eq_true rfl) (by rw [h0, h1])
noncomputable def fX3_coinValue (G : Nat → Nat → Int32) (p0 : Int32) : Int32 := rAt 6 (G 1) (rAt 24 (G 7) p0)
set_option maxHeartbeats 4000000 in
set_option maxRecDepth 100000 in
theorem c_X3_coinValue (l : Launch) (D : va_G) (cI cJ : ClassId) (a : Nat → Nat) (G : Nat → Nat → Int32) (g : Nat → Int32) (p0 : Int32) (rs : va_W) (r' : Int32) (h : fX3_coinValue G p0 = r') : Ci l yX3_coinValue wsX3_coinValue ({ frames := 1, cells := 0, slots := 0, locals := 21 } : Room) D cI cJ ([.ref (a 0), .int p0] : List Value) (wl cI a G g ++ rs) r' (wl cI a G g ++ rs) := by
  refine Ci.mk (cc := cX3_coinValue) (maxL := 2) (ret := (some .int)) (by decide) rfl (Nat.le_of_ble_eq_true rfl) ?_
  intro p e s m below meth c A ls B hr hlk hK hN hA hP hD hl
  obtain ⟨hx, hb, hml, hown, hts⟩ := id B
  have hi_X0 : ∀ w ∈ wsX00, w ∈ wsX3_coinValue := fun _ h => List.mem_cons_of_mem _ (List.mem_append_left _ (List.mem_append_left _ (List.mem_append_left _ (List.mem_append_right _ (h)))))
  have hi_X3 : ∀ w ∈ wsX30, w ∈ wsX3_coinValue := fun _ h => List.mem_cons_of_mem _ (List.mem_append_left _ (List.mem_append_left _ (List.mem_append_left _ (List.mem_append_left _ (List.mem_append_right _ (h))))))
  have hi_X4 : ∀ w ∈ wsX40, w ∈ wsX3_coinValue := fun _ h => List.mem_cons_of_mem _ (List.mem_append_left _ (List.mem_append_left _ (List.mem_append_right _ (h))))
  have hS : va_S A s.heap s.heap [] := va_S.rf
  have hl : lv_has ls 2 [(0, .ref (a 0)), (1, .int p0)] := hl
  unfold fX3_coinValue at h
  refine lv_aload_n hx hb dX3_coinValue_0 rfl (lv_at hl 0 rfl) ?_
  refine va_get (ci := 6) (v := .ref (a 1)) (C := RX3) (T := TX3) (N := 9) hx hb hts hi_X3 hown hK hP 0 rfl rfl 0 (by decide) (hts (.fieldLink RX3 12 "WishWell$Well" "lands" "LWishWell$Lands;") (List.mem_of_getElem? (i := 1) rfl)) (fun _ h9 => h9) rfl dX3_coinValue_1 ?_
  refine va_get (ci := 3) (v := .ref (a 5)) (C := RX0) (T := TX0) (N := 6) hx hb hts hi_X0 hown hK hP 1 rfl rfl 0 (by decide) (hts (.fieldLink RX3 55 "WishWell$Lands" "values" "LWishWell$Row;") (List.mem_of_getElem? (i := 2) rfl)) (fun _ h9 => h9) rfl dX3_coinValue_4 ?_
  refine lv_aload_n hx hb dX3_coinValue_7 rfl (lv_at hl 0 rfl) ?_
  refine va_get (ci := 6) (v := .ref (a 2)) (C := RX3) (T := TX3) (N := 9) hx hb hts hi_X3 hown hK hP 0 rfl rfl 1 (by decide) (hts (.fieldLink RX3 21 "WishWell$Well" "wishes" "LWishWell$Wishes;") (List.mem_of_getElem? (i := 3) rfl)) (fun _ h9 => h9) rfl dX3_coinValue_8 ?_
  refine va_get (ci := 7) (v := .ref (a 11)) (C := RX4) (T := TX4) (N := 6) hx hb hts hi_X4 hown hK hP 2 rfl rfl 1 (by decide) (hts (.fieldLink RX3 71 "WishWell$Wishes" "coinLands" "LWishWell$Row;") (List.mem_of_getElem? (i := 4) rfl)) (fun _ h9 => h9) rfl dX3_coinValue_11 ?_
  refine lv_iload_n hx hb dX3_coinValue_14 rfl (lv_at hl 1 rfl) ?_
  refine kVi (As := [.int p0]) (rest := [.ref (a 5)]) B hK hN hP hD hS hA (c_X2_at l D cI cJ _ _ _ 24 (G 7) 11 23 rfl rfl (by decide) p0) (cwV 1 hts gX3_coinValue_X2_at rfl rfl rfl (by decide +kernel) ⟨(Nat.le_of_ble_eq_true rfl), (Nat.le_of_ble_eq_true rfl)⟩) 5 11 rfl rfl rfl hl.1 rfl (Nat.le_of_ble_eq_true rfl) dX3_coinValue_15 ⟨(Nat.le_of_ble_eq_true rfl), (Nat.le_of_ble_eq_true rfl)⟩ rfl (fun H locs hP hD hS => ?_)
  refine kVi (As := [.int (rAt 24 (G 7) p0)]) (rest := []) B hK hN hP hD hS hA (c_X2_at l D cI cJ _ _ _ 6 (G 1) 5 17 rfl rfl (by decide) (rAt 24 (G 7) p0)) (cwV 1 hts gX3_coinValue_X2_at rfl rfl rfl (by decide +kernel) ⟨(Nat.le_of_ble_eq_true rfl), (Nat.le_of_ble_eq_true rfl)⟩) 5 5 rfl rfl rfl hl.1 rfl (Nat.le_of_ble_eq_true rfl) dX3_coinValue_18 ⟨(Nat.le_of_ble_eq_true rfl), (Nat.le_of_ble_eq_true rfl)⟩ rfl (fun H locs hP hD hS => ?_)
  exact eI hx hb hr hlk hP hS dX3_coinValue_21 (Nat.le_of_ble_eq_true rfl) (Nat.le_of_ble_eq_true rfl) h rfl
noncomputable def fX3_dearestIn_B7 (G : Nat → Nat → Int32) (g : Nat → Int32) (p0 : Int32) (x2_1 : Int32) (x3_1 : Int32) (x4_1 : Int32)  : Option ((Int32 × Int32 × Int32) ⊕ (Int32 × Int32 × Int32)) := if (g 5) ≤ x4_1 then (some (.inr (x2_1, x3_1, x4_1))) else (if (fX1_at G p0 x4_1) ≤ 0 then (some (.inl (x2_1, x3_1, x4_1 + 1))) else (if (rAt 6 (G 1) x4_1) ≤ x3_1 then (some (.inl (x2_1, x3_1, x4_1 + 1))) else (lt_ (rAt 6 (G 1) x4_1) (fun y3_5 => some (.inl (x4_1, y3_5, x4_1 + 1))))))
noncomputable def fX3_dearestIn (G : Nat → Nat → Int32) (g : Nat → Int32) (p0 : Int32) : Option (Int32) := b3 (lp (fun s => fX3_dearestIn_B7 G g p0 s.1 s.2.1 s.2.2) 7 ((-1), 0, 0)) (fun z2_1 z3_1 z4_1 => some z2_1)
set_option maxHeartbeats 4000000 in
set_option maxRecDepth 100000 in
theorem c_X3_dearestIn (l : Launch) (D : va_G) (cI cJ : ClassId) (a : Nat → Nat) (G : Nat → Nat → Int32) (g : Nat → Int32) (p0 : Int32) (r' : Int32) (rs : va_W) (h : fX3_dearestIn G g p0 = some r') : Ci l yX3_dearestIn wsX3_dearestIn ({ frames := 2, cells := 0, slots := 0, locals := 44 } : Room) D cI cJ ([.ref (a 0), .int p0] : List Value) (wl cI a G g ++ rs) r' (wl cI a G g ++ rs) := by
  refine Ci.mk (cc := cX3_dearestIn) (maxL := 5) (ret := (some .int)) (by decide) rfl (Nat.le_of_ble_eq_true rfl) ?_
  intro p e s m below meth c A ls B hr hlk hK hN hA hP hD hl
  obtain ⟨hx, hb, hml, hown, hts⟩ := id B
  have hi_X0 : ∀ w ∈ wsX00, w ∈ wsX3_dearestIn := fun _ h => List.mem_cons_of_mem _ (List.mem_append_left _ (List.mem_append_left _ (List.mem_append_left _ (List.mem_append_right _ (h)))))
  have hi_X3 : ∀ w ∈ wsX30, w ∈ wsX3_dearestIn := fun _ h => List.mem_cons_of_mem _ (List.mem_append_left _ (List.mem_append_left _ (List.mem_append_left _ (List.mem_append_left _ (List.mem_append_right _ (h))))))
  have hS : va_S A s.heap s.heap [] := va_S.rf
  have hl : lv_has ls 5 [(0, .ref (a 0)), (1, .int p0)] := hl
  unfold fX3_dearestIn at h
  refine lv_iconst (v := (-1)) hx hb dX3_dearestIn_0 (by decide) ?_
  refine lv_istore_n (lv' := [(2, .int (-1)), (0, .ref (a 0)), (1, .int p0)]) hx hb dX3_dearestIn_1 rfl hl (by decide) rfl (fun ls hl => ?_)
  refine lv_iconst (v := 0) hx hb dX3_dearestIn_2 (by decide) ?_
  refine lv_istore_n (lv' := [(3, .int 0), (2, .int (-1)), (0, .ref (a 0)), (1, .int p0)]) hx hb dX3_dearestIn_3 rfl hl (by decide) rfl (fun ls hl => ?_)
  refine lv_iconst (v := 0) hx hb dX3_dearestIn_4 (by decide) ?_
  refine lv_istore (lv' := [(4, .int 0), (3, .int 0), (2, .int (-1)), (0, .ref (a 0)), (1, .int p0)]) hx hb dX3_dearestIn_5 hl (by decide) rfl (fun ls hl => ?_)
  have L7_1 : ∀ (n : Nat) (x2_1 : Int32) (x3_1 : Int32) (x4_1 : Int32)  (z2_1 : Int32) (z3_1 : Int32) (z4_1 : Int32)  (_ : lp (fun s => fX3_dearestIn_B7 G g p0 s.1 s.2.1 s.2.2) n (x2_1, x3_1, x4_1) = some (z2_1, z3_1, z4_1)) (_ : ∀ (H : Heap) (locs : List Loc) (ls : Array Slot), va_P D vwCl (wl cI a G g ++ rs) H → va_D A (wl cI a G g ++ rs) → va_S A s.heap H locs → lv_has ls 5 [(0, .ref (a 0)), (1, .int p0), (2, .int z2_1), (3, .int z3_1), (4, .int z4_1)] → W p l e (headSpec wsX3_dearestIn ({ frames := 2, cells := 0, slots := 0, locals := 44 } : Room)).room s m ([.ref (a 0), .int p0] : List Value).toArray below meth c H locs (0) (0) (QI below D (wl cI a G g ++ rs) r' ([.ref (a 0), .int p0] : List Value).toArray s 0 0 A) (F0 m 70 ls [])) (H : Heap) (locs : List Loc) (ls : Array Slot), va_P D vwCl (wl cI a G g ++ rs) H → va_D A (wl cI a G g ++ rs) → va_S A s.heap H locs → lv_has ls 5 [(0, .ref (a 0)), (1, .int p0), (2, .int x2_1), (3, .int x3_1), (4, .int x4_1)] → W p l e (headSpec wsX3_dearestIn ({ frames := 2, cells := 0, slots := 0, locals := 44 } : Room)).room s m ([.ref (a 0), .int p0] : List Value).toArray below meth c H locs (0) (0) (QI below D (wl cI a G g ++ rs) r' ([.ref (a 0), .int p0] : List Value).toArray s 0 0 A) (F0 m 7 ls []) := by
    intro n
    induction n with
    | zero => intro x2_1 x3_1 x4_1 z2_1 z3_1 z4_1 h; exact (lp_0 h).elim
    | succ n ih =>
      intro x2_1 x3_1 x4_1 z2_1 z3_1 z4_1 h kk H locs ls hP hD hS hl
      obtain ⟨z, h, hz⟩ := lp_walk h
      have h : fX3_dearestIn_B7 G g p0 x2_1 x3_1 x4_1 = some z := h
      unfold fX3_dearestIn_B7 at h
      refine lv_iload hx hb dX3_dearestIn_7 (lv_at hl 4 rfl) ?_
      refine lv_aload_n hx hb dX3_dearestIn_9 rfl (lv_at hl 0 rfl) ?_
      refine va_get (ci := 6) (v := .ref (a 1)) (C := RX3) (T := TX3) (N := 9) hx hb hts hi_X3 hown hK hP 0 rfl rfl 0 (by decide) (hts (.fieldLink RX3 12 "WishWell$Well" "lands" "LWishWell$Lands;") (List.mem_of_getElem? (i := 1) rfl)) (fun _ h9 => h9) rfl dX3_dearestIn_10 ?_
      refine va_get (ci := 3) (v := .int (g 5)) (C := RX0) (T := TX0) (N := 6) hx hb hts hi_X0 hown hK hP 1 rfl rfl 5 (by decide) (hts (.fieldLink RX3 95 "WishWell$Lands" "size" "I") (List.mem_of_getElem? (i := 2) rfl)) (fun _ h9 => h9) rfl dX3_dearestIn_13 ?_
      refine lv_icmp_ge (tgt := 70) hx hb dX3_dearestIn_16 (by decide) (fun c_2 => ?_) (fun c_2 => ?_)
      · have h := ip_ h c_2
        cases lz_e h hz
        exact kk _ _ _ hP hD hS (lv_sub hl [0, 1, 2, 3, 4] rfl)
      · have h := in_ h c_2
        refine lv_aload_n hx hb dX3_dearestIn_19 rfl (lv_at hl 0 rfl) ?_
        refine va_get (ci := 6) (v := .ref (a 3)) (C := RX3) (T := TX3) (N := 9) hx hb hts hi_X3 hown hK hP 0 rfl rfl 2 (by decide) (hts (.fieldLink RX3 28 "WishWell$Well" "layers" "LWishWell$Layers;") (List.mem_of_getElem? (i := 3) rfl)) (fun _ h9 => h9) rfl dX3_dearestIn_20 ?_
        refine lv_iload_n hx hb dX3_dearestIn_23 rfl (lv_at hl 1 rfl) ?_
        refine lv_iload hx hb dX3_dearestIn_24 (lv_at hl 4 rfl) ?_
        refine kVi (As := [.int p0, .int x4_1]) (rest := []) B hK hN hP hD hS hA (c_X1_at l D cI cJ a G g p0 x4_1 rs _ rfl) (cwV 2 hts gX3_dearestIn_X1_at rfl rfl rfl (by decide +kernel) ⟨(Nat.le_of_ble_eq_true rfl), (Nat.le_of_ble_eq_true rfl)⟩) 4 3 rfl rfl rfl hl.1 rfl (Nat.le_of_ble_eq_true rfl) dX3_dearestIn_26 ⟨(Nat.le_of_ble_eq_true rfl), (Nat.le_of_ble_eq_true rfl)⟩ rfl (fun H locs hP hD hS => ?_)
        refine lv_if_le (tgt := 64) hx hb dX3_dearestIn_29 (by decide) (fun c_3 => ?_) (fun c_3 => ?_)
        · have h := ip_ h c_3
          refine lv_iinc (v := x4_1 + 1) (lv' := [(4, .int (x4_1 + 1)), (0, .ref (a 0)), (1, .int p0), (2, .int x2_1), (3, .int x3_1)]) hx hb dX3_dearestIn_64 hl (k := 4) rfl rfl (by decide) rfl (fun ls hl => ?_)
          refine lv_goto (tgt := 7) hx hb dX3_dearestIn_67 (by decide) ?_
          exact ih x2_1 x3_1 (x4_1 + 1) _ _ _ (lz_c h hz) kk _ _ _ hP hD hS (lv_sub hl [1, 2, 3, 4, 0] rfl)
        · have h := in_ h c_3
          refine lv_aload_n hx hb dX3_dearestIn_32 rfl (lv_at hl 0 rfl) ?_
          refine va_get (ci := 6) (v := .ref (a 1)) (C := RX3) (T := TX3) (N := 9) hx hb hts hi_X3 hown hK hP 0 rfl rfl 0 (by decide) (hts (.fieldLink RX3 12 "WishWell$Well" "lands" "LWishWell$Lands;") (List.mem_of_getElem? (i := 1) rfl)) (fun _ h9 => h9) rfl dX3_dearestIn_33 ?_
          refine va_get (ci := 3) (v := .ref (a 5)) (C := RX0) (T := TX0) (N := 6) hx hb hts hi_X0 hown hK hP 1 rfl rfl 0 (by decide) (hts (.fieldLink RX3 55 "WishWell$Lands" "values" "LWishWell$Row;") (List.mem_of_getElem? (i := 4) rfl)) (fun _ h9 => h9) rfl dX3_dearestIn_36 ?_
          refine lv_iload hx hb dX3_dearestIn_39 (lv_at hl 4 rfl) ?_
          refine kVi (As := [.int x4_1]) (rest := []) B hK hN hP hD hS hA (c_X2_at l D cI cJ _ _ _ 6 (G 1) 5 17 rfl rfl (by decide) x4_1) (cwV 1 hts gX3_dearestIn_X2_at rfl rfl rfl (by decide +kernel) ⟨(Nat.le_of_ble_eq_true rfl), (Nat.le_of_ble_eq_true rfl)⟩) 5 5 rfl rfl rfl hl.1 rfl (Nat.le_of_ble_eq_true rfl) dX3_dearestIn_41 ⟨(Nat.le_of_ble_eq_true rfl), (Nat.le_of_ble_eq_true rfl)⟩ rfl (fun H locs hP hD hS => ?_)
          refine lv_iload_n hx hb dX3_dearestIn_44 rfl (lv_at hl 3 rfl) ?_
          refine lv_icmp_le (tgt := 64) hx hb dX3_dearestIn_45 (by decide) (fun c_4 => ?_) (fun c_4 => ?_)
          · have h := ip_ h c_4
            refine lv_iinc (v := x4_1 + 1) (lv' := [(4, .int (x4_1 + 1)), (0, .ref (a 0)), (1, .int p0), (2, .int x2_1), (3, .int x3_1)]) hx hb dX3_dearestIn_64 hl (k := 4) rfl rfl (by decide) rfl (fun ls hl => ?_)
            refine lv_goto (tgt := 7) hx hb dX3_dearestIn_67 (by decide) ?_
            exact ih x2_1 x3_1 (x4_1 + 1) _ _ _ (lz_c h hz) kk _ _ _ hP hD hS (lv_sub hl [1, 2, 3, 4, 0] rfl)
          · have h := in_ h c_4
            refine lv_iload hx hb dX3_dearestIn_48 (lv_at hl 4 rfl) ?_
            refine lv_istore_n (lv' := [(2, .int x4_1), (0, .ref (a 0)), (1, .int p0), (3, .int x3_1), (4, .int x4_1)]) hx hb dX3_dearestIn_50 rfl hl (by decide) rfl (fun ls hl => ?_)
            refine lv_aload_n hx hb dX3_dearestIn_51 rfl (lv_at hl 1 rfl) ?_
            refine va_get (ci := 6) (v := .ref (a 1)) (C := RX3) (T := TX3) (N := 9) hx hb hts hi_X3 hown hK hP 0 rfl rfl 0 (by decide) (hts (.fieldLink RX3 12 "WishWell$Well" "lands" "LWishWell$Lands;") (List.mem_of_getElem? (i := 1) rfl)) (fun _ h9 => h9) rfl dX3_dearestIn_52 ?_
            refine va_get (ci := 3) (v := .ref (a 5)) (C := RX0) (T := TX0) (N := 6) hx hb hts hi_X0 hown hK hP 1 rfl rfl 0 (by decide) (hts (.fieldLink RX3 55 "WishWell$Lands" "values" "LWishWell$Row;") (List.mem_of_getElem? (i := 4) rfl)) (fun _ h9 => h9) rfl dX3_dearestIn_55 ?_
            refine lv_iload hx hb dX3_dearestIn_58 (lv_at hl 4 rfl) ?_
            refine kVi (As := [.int x4_1]) (rest := []) B hK hN hP hD hS hA (c_X2_at l D cI cJ _ _ _ 6 (G 1) 5 17 rfl rfl (by decide) x4_1) (cwV 1 hts gX3_dearestIn_X2_at rfl rfl rfl (by decide +kernel) ⟨(Nat.le_of_ble_eq_true rfl), (Nat.le_of_ble_eq_true rfl)⟩) 5 5 rfl rfl rfl hl.1 rfl (Nat.le_of_ble_eq_true rfl) dX3_dearestIn_60 ⟨(Nat.le_of_ble_eq_true rfl), (Nat.le_of_ble_eq_true rfl)⟩ rfl (fun H locs hP hD hS => ?_)
            obtain ⟨y3_5, ey3_5, h⟩ := lt_I h
            rw [← ey3_5]
            refine lv_istore_n (lv' := [(3, .int y3_5), (2, .int x4_1), (0, .ref (a 0)), (1, .int p0), (4, .int x4_1)]) hx hb dX3_dearestIn_63 rfl hl (by decide) rfl (fun ls hl => ?_)
            refine lv_iinc (v := x4_1 + 1) (lv' := [(4, .int (x4_1 + 1)), (3, .int y3_5), (2, .int x4_1), (0, .ref (a 0)), (1, .int p0)]) hx hb dX3_dearestIn_64 hl (k := 4) rfl rfl (by decide) rfl (fun ls hl => ?_)
            refine lv_goto (tgt := 7) hx hb dX3_dearestIn_67 (by decide) ?_
            exact ih x4_1 y3_5 (x4_1 + 1) _ _ _ (lz_c h hz) kk _ _ _ hP hD hS (lv_sub hl [3, 4, 2, 1, 0] rfl)
  obtain ⟨z2_1, z3_1, z4_1, hl_1, h⟩ := b3_I h
  refine L7_1 7 (-1) 0 0  z2_1 z3_1 z4_1 hl_1 (fun H locs ls hP hD hS hl => ?_) _ _ _ hP hD hS (lv_sub hl [3, 4, 2, 1, 0] rfl)
  refine lv_iload_n hx hb dX3_dearestIn_70 rfl (lv_at hl 2 rfl) ?_
  have h0 := o1 h
  exact eI hx hb hr hlk hP hS dX3_dearestIn_71 (Nat.le_of_ble_eq_true rfl) (Nat.le_of_ble_eq_true rfl) h0 rfl
noncomputable def fX3_withdrawWish (G : Nat → Nat → Int32) (g : Nat → Int32) (p0 : Int32) : Option (Int32 × (Nat → Nat → Int32) × (Nat → Int32)) := lt_ (rAt 24 (G 7) p0) (fun y2_1 => Option.bind (fX1_uppermostOf G y2_1) (fun r_2 => if r_2 = (-1) then (lt_ (uG G 9 (rPut 24 (G 9) p0 2)) (fun G_5 => lt_ (uS g 1 (if 0 < ((g 1) - 5) then (g 1) - 5 else 0)) (fun g_6 => some (r_2, G_5, g_6)))) else (Option.bind (fX1_add G r_2 y2_1 (-1)) (fun G_7 => lt_ (uG G_7 5 (rAdd 6 (G_7 5) y2_1 1)) (fun G_9 => lt_ (uG G_9 9 (rPut 24 (G_9 9) p0 2)) (fun G_10 => lt_ (uS g 1 (if 0 < ((g 1) - 5) then (g 1) - 5 else 0)) (fun g_11 => some (r_2, G_10, g_11))))))))
set_option maxHeartbeats 4000000 in
set_option maxRecDepth 100000 in
theorem c_X3_withdrawWish (l : Launch) (D : va_G) (cI cJ : ClassId) (a : Nat → Nat) (G : Nat → Nat → Int32) (g : Nat → Int32) (p0 : Int32) (r' : Int32) (G' : Nat → Nat → Int32) (g' : Nat → Int32) (rs : va_W) (h : fX3_withdrawWish G g p0 = some (r', G', g')) : Ci l yX3_withdrawWish wsX3_withdrawWish ({ frames := 3, cells := 0, slots := 0, locals := 66 } : Room) D cI cJ ([.ref (a 0), .int p0] : List Value) (wl cI a G g ++ rs) r' (wl cI a G' g' ++ rs) := by
  refine Ci.mk (cc := cX3_withdrawWish) (maxL := 4) (ret := (some .int)) (by decide) rfl (Nat.le_of_ble_eq_true rfl) ?_
  intro p e s m below meth c A ls B hr hlk hK hN hA hP hD hl
  obtain ⟨hx, hb, hml, hown, hts⟩ := id B
  have hi_X0 : ∀ w ∈ wsX00, w ∈ wsX3_withdrawWish := fun _ h => List.mem_cons_of_mem _ (List.mem_append_left _ (List.mem_append_left _ (List.mem_append_left _ (List.mem_append_right _ (h)))))
  have hi_X3 : ∀ w ∈ wsX30, w ∈ wsX3_withdrawWish := fun _ h => List.mem_cons_of_mem _ (List.mem_append_left _ (List.mem_append_left _ (List.mem_append_left _ (List.mem_append_left _ (List.mem_append_left _ (List.mem_append_right _ (h)))))))
  have hi_X4 : ∀ w ∈ wsX40, w ∈ wsX3_withdrawWish := fun _ h => List.mem_cons_of_mem _ (List.mem_append_left _ (List.mem_append_left _ (List.mem_append_left _ (List.mem_append_left _ (List.mem_append_right _ (h))))))
  have hS : va_S A s.heap s.heap [] := va_S.rf
  have hl : lv_has ls 4 [(0, .ref (a 0)), (1, .int p0)] := hl
  unfold fX3_withdrawWish at h
  refine lv_aload_n hx hb dX3_withdrawWish_0 rfl (lv_at hl 0 rfl) ?_
  refine va_get (ci := 6) (v := .ref (a 2)) (C := RX3) (T := TX3) (N := 9) hx hb hts hi_X3 hown hK hP 0 rfl rfl 1 (by decide) (hts (.fieldLink RX3 21 "WishWell$Well" "wishes" "LWishWell$Wishes;") (List.mem_of_getElem? (i := 1) rfl)) (fun _ h9 => h9) rfl dX3_withdrawWish_1 ?_
  refine va_get (ci := 7) (v := .ref (a 11)) (C := RX4) (T := TX4) (N := 6) hx hb hts hi_X4 hown hK hP 2 rfl rfl 1 (by decide) (hts (.fieldLink RX3 71 "WishWell$Wishes" "coinLands" "LWishWell$Row;") (List.mem_of_getElem? (i := 2) rfl)) (fun _ h9 => h9) rfl dX3_withdrawWish_4 ?_
  refine lv_iload_n hx hb dX3_withdrawWish_7 rfl (lv_at hl 1 rfl) ?_
  refine kVi (As := [.int p0]) (rest := []) B hK hN hP hD hS hA (c_X2_at l D cI cJ _ _ _ 24 (G 7) 11 23 rfl rfl (by decide) p0) (cwV 1 hts gX3_withdrawWish_X2_at rfl rfl rfl (by decide +kernel) ⟨(Nat.le_of_ble_eq_true rfl), (Nat.le_of_ble_eq_true rfl)⟩) 5 11 rfl rfl rfl hl.1 rfl (Nat.le_of_ble_eq_true rfl) dX3_withdrawWish_8 ⟨(Nat.le_of_ble_eq_true rfl), (Nat.le_of_ble_eq_true rfl)⟩ rfl (fun H locs hP hD hS => ?_)
  obtain ⟨y2_1, ey2_1, h⟩ := lt_I h
  rw [← ey2_1]
  refine lv_istore_n (lv' := [(2, .int y2_1), (0, .ref (a 0)), (1, .int p0)]) hx hb dX3_withdrawWish_11 rfl hl (by decide) rfl (fun ls hl => ?_)
  refine lv_aload_n hx hb dX3_withdrawWish_12 rfl (lv_at hl 1 rfl) ?_
  refine va_get (ci := 6) (v := .ref (a 3)) (C := RX3) (T := TX3) (N := 9) hx hb hts hi_X3 hown hK hP 0 rfl rfl 2 (by decide) (hts (.fieldLink RX3 28 "WishWell$Well" "layers" "LWishWell$Layers;") (List.mem_of_getElem? (i := 3) rfl)) (fun _ h9 => h9) rfl dX3_withdrawWish_13 ?_
  refine lv_iload_n hx hb dX3_withdrawWish_16 rfl (lv_at hl 0 rfl) ?_
  obtain ⟨r_2, hx_3, h⟩ := bd_I h
  refine kVi (As := [.int y2_1]) (rest := []) B hK hN hP hD hS hA (c_X1_uppermostOf l D cI cJ a G g y2_1 r_2 rs hx_3) (cwV 1 hts gX3_withdrawWish_X1_uppermostOf rfl rfl rfl (by decide +kernel) ⟨(Nat.le_of_ble_eq_true rfl), (Nat.le_of_ble_eq_true rfl)⟩) 4 3 rfl rfl rfl hl.1 rfl (Nat.le_of_ble_eq_true rfl) dX3_withdrawWish_17 ⟨(Nat.le_of_ble_eq_true rfl), (Nat.le_of_ble_eq_true rfl)⟩ rfl (fun H locs hP hD hS => ?_)
  refine lv_istore_n (lv' := [(3, .int r_2), (2, .int y2_1), (0, .ref (a 0)), (1, .int p0)]) hx hb dX3_withdrawWish_20 rfl hl (by decide) rfl (fun ls hl => ?_)
  refine lv_iload_n hx hb dX3_withdrawWish_21 rfl (lv_at hl 0 rfl) ?_
  refine lv_iconst (v := (-1)) hx hb dX3_withdrawWish_22 (by decide) ?_
  refine lv_icmp_eq (tgt := 48) hx hb dX3_withdrawWish_23 (by decide) (fun c_4 => ?_) (fun c_4 => ?_)
  · have h := ip_ h c_4
    refine lv_aload_n hx hb dX3_withdrawWish_48 rfl (lv_at hl 2 rfl) ?_
    refine va_get (ci := 6) (v := .ref (a 2)) (C := RX3) (T := TX3) (N := 9) hx hb hts hi_X3 hown hK hP 0 rfl rfl 1 (by decide) (hts (.fieldLink RX3 21 "WishWell$Well" "wishes" "LWishWell$Wishes;") (List.mem_of_getElem? (i := 1) rfl)) (fun _ h9 => h9) rfl dX3_withdrawWish_49 ?_
    refine va_get (ci := 7) (v := .ref (a 13)) (C := RX4) (T := TX4) (N := 6) hx hb hts hi_X4 hown hK hP 2 rfl rfl 3 (by decide) (hts (.fieldLink RX3 80 "WishWell$Wishes" "fates" "LWishWell$Row;") (List.mem_of_getElem? (i := 6) rfl)) (fun _ h9 => h9) rfl dX3_withdrawWish_52 ?_
    refine lv_iload_n hx hb dX3_withdrawWish_55 rfl (lv_at hl 3 rfl) ?_
    refine lv_iconst (v := 2) hx hb dX3_withdrawWish_56 (by decide) ?_
    refine kVv (As := [.int p0, .int 2]) (rest := []) B hK hN hP hD hS hA (c_X2_put l D cI cJ _ (wl cI a (uG G 9 (rPut 24 (G 9) p0 2)) g ++ rs) _ _ 24 (G 9) 13 25 rfl rfl (by decide) p0 2 rfl rfl) (cwV 2 hts gX3_withdrawWish_X2_put rfl rfl rfl (by decide +kernel) ⟨(Nat.le_of_ble_eq_true rfl), (Nat.le_of_ble_eq_true rfl)⟩) 5 13 rfl rfl rfl hl.1 rfl (Nat.le_of_ble_eq_true rfl) dX3_withdrawWish_57 ⟨(Nat.le_of_ble_eq_true rfl), (Nat.le_of_ble_eq_true rfl)⟩ rfl (fun H locs hP hD hS => ?_)
    obtain ⟨G_5, eG_5, h⟩ := lt_I h
    have hP : va_P D vwCl (wl cI a G_5 g ++ rs) H := by rw [eG_5]; exact hP
    have hD : va_D A (wl cI a G_5 g ++ rs) := by rw [eG_5]; exact hD
    refine lv_aload_n hx hb dX3_withdrawWish_60 rfl (lv_at hl 2 rfl) ?_
    refine lv_iconst (v := 0) hx hb dX3_withdrawWish_61 (by decide) ?_
    refine lv_aload_n hx hb dX3_withdrawWish_62 rfl (lv_at hl 2 rfl) ?_
    refine va_get (ci := 6) (v := .int (g 1)) (C := RX3) (T := TX3) (N := 9) hx hb hts hi_X3 hown hK hP 0 rfl rfl 5 (by decide) (hts (.fieldLink RX3 41 "WishWell$Well" "favour" "I") (List.mem_of_getElem? (i := 7) rfl)) (fun _ h9 => h9) rfl dX3_withdrawWish_63 ?_
    refine lv_iconst (v := 5) hx hb dX3_withdrawWish_66 (by decide) ?_
    refine lv_isub hx hb dX3_withdrawWish_67 ?_
    refine va_mmax hx hb (hml.trans hl.1.symm) hown (hts (.methodLink RX3 86 Lib.Math.max.name) (List.mem_of_getElem? (i := 8) rfl)) (hts (.static Lib.Math.max.name) (List.mem_of_getElem? (i := 9) rfl)) (hts (.initialized "java/lang/Math") (List.mem_of_getElem? (i := 10) rfl)) (hts (.code Lib.Math.max.name Lib.Math.max.code 2 (some .int)) (List.mem_of_getElem? (i := 11) rfl)) (Nat.le_of_ble_eq_true rfl) (Nat.le_of_ble_eq_true rfl) (Nat.le_of_ble_eq_true rfl) (Nat.le_of_ble_eq_true rfl) dX3_withdrawWish_68 ?_
    refine va_put (D := D) (ci := 6) (v := .int (if 0 < ((g 1) - 5) then (g 1) - 5 else 0)) (ty := .int) (C := RX3) (T := TX3) (N := 9) hx hb hts hi_X3 tyX3 tyX3_ok nmX3 hown hK hP hD hS 0 rfl rfl 5 (by decide) (hts (.fieldLink RX3 41 "WishWell$Well" "favour" "I") (List.mem_of_getElem? (i := 7) rfl)) (fun _ h9 => h9) rfl (by decide +kernel) rfl rfl (Nat.le_of_ble_eq_true rfl) dX3_withdrawWish_71 (fun H locs hP hD hS => ?_)
    obtain ⟨g_6, eg_6, h⟩ := lt_I h
    have hP : va_P D vwCl (wl cI a G_5 g_6 ++ rs) H := by rw [eg_6]; exact hP
    have hD : va_D A (wl cI a G_5 g_6 ++ rs) := by rw [eg_6]; exact hD
    refine lv_iload_n hx hb dX3_withdrawWish_74 rfl (lv_at hl 0 rfl) ?_
    obtain ⟨h0, h1, h2⟩ := o3 h
    exact eI hx hb hr hlk hP hS dX3_withdrawWish_75 (Nat.le_of_ble_eq_true rfl) (Nat.le_of_ble_eq_true rfl) h0 (by rw [h1, h2])
  · have h := in_ h c_4
    refine lv_aload_n hx hb dX3_withdrawWish_26 rfl (lv_at hl 2 rfl) ?_
    refine va_get (ci := 6) (v := .ref (a 3)) (C := RX3) (T := TX3) (N := 9) hx hb hts hi_X3 hown hK hP 0 rfl rfl 2 (by decide) (hts (.fieldLink RX3 28 "WishWell$Well" "layers" "LWishWell$Layers;") (List.mem_of_getElem? (i := 3) rfl)) (fun _ h9 => h9) rfl dX3_withdrawWish_27 ?_
    refine lv_iload_n hx hb dX3_withdrawWish_30 rfl (lv_at hl 0 rfl) ?_
    refine lv_iload_n hx hb dX3_withdrawWish_31 rfl (lv_at hl 1 rfl) ?_
    refine lv_iconst (v := (-1)) hx hb dX3_withdrawWish_32 (by decide) ?_
    obtain ⟨G_7, hx_8, h⟩ := bd_I h
    refine kVv (As := [.int r_2, .int y2_1, .int (-1)]) (rest := []) B hK hN hP hD hS hA (c_X1_add l D cI cJ a G g r_2 y2_1 (-1) G_7 rs hx_8) (cwV 3 hts gX3_withdrawWish_X1_add rfl rfl rfl (by decide +kernel) ⟨(Nat.le_of_ble_eq_true rfl), (Nat.le_of_ble_eq_true rfl)⟩) 4 3 rfl rfl rfl hl.1 rfl (Nat.le_of_ble_eq_true rfl) dX3_withdrawWish_33 ⟨(Nat.le_of_ble_eq_true rfl), (Nat.le_of_ble_eq_true rfl)⟩ rfl (fun H locs hP hD hS => ?_)
    refine lv_aload_n hx hb dX3_withdrawWish_36 rfl (lv_at hl 2 rfl) ?_
    refine va_get (ci := 6) (v := .ref (a 1)) (C := RX3) (T := TX3) (N := 9) hx hb hts hi_X3 hown hK hP 0 rfl rfl 0 (by decide) (hts (.fieldLink RX3 12 "WishWell$Well" "lands" "LWishWell$Lands;") (List.mem_of_getElem? (i := 4) rfl)) (fun _ h9 => h9) rfl dX3_withdrawWish_37 ?_
    refine va_get (ci := 3) (v := .ref (a 9)) (C := RX0) (T := TX0) (N := 6) hx hb hts hi_X0 hown hK hP 1 rfl rfl 4 (by decide) (hts (.fieldLink RX3 77 "WishWell$Lands" "takenBack" "LWishWell$Row;") (List.mem_of_getElem? (i := 5) rfl)) (fun _ h9 => h9) rfl dX3_withdrawWish_40 ?_
    refine lv_iload_n hx hb dX3_withdrawWish_43 rfl (lv_at hl 1 rfl) ?_
    refine lv_iconst (v := 1) hx hb dX3_withdrawWish_44 (by decide) ?_
    refine kVv (As := [.int y2_1, .int 1]) (rest := []) B hK hN hP hD hS hA (c_X2_add l D cI cJ _ (wl cI a (uG G_7 5 (rAdd 6 (G_7 5) y2_1 1)) g ++ rs) _ _ 6 (G_7 5) 9 21 rfl rfl (by decide) y2_1 1 rfl rfl) (cwV 2 hts gX3_withdrawWish_X2_add rfl rfl rfl (by decide +kernel) ⟨(Nat.le_of_ble_eq_true rfl), (Nat.le_of_ble_eq_true rfl)⟩) 5 9 rfl rfl rfl hl.1 rfl (Nat.le_of_ble_eq_true rfl) dX3_withdrawWish_45 ⟨(Nat.le_of_ble_eq_true rfl), (Nat.le_of_ble_eq_true rfl)⟩ rfl (fun H locs hP hD hS => ?_)
    obtain ⟨G_9, eG_9, h⟩ := lt_I h
    have hP : va_P D vwCl (wl cI a G_9 g ++ rs) H := by rw [eG_9]; exact hP
    have hD : va_D A (wl cI a G_9 g ++ rs) := by rw [eG_9]; exact hD
    refine lv_aload_n hx hb dX3_withdrawWish_48 rfl (lv_at hl 2 rfl) ?_
    refine va_get (ci := 6) (v := .ref (a 2)) (C := RX3) (T := TX3) (N := 9) hx hb hts hi_X3 hown hK hP 0 rfl rfl 1 (by decide) (hts (.fieldLink RX3 21 "WishWell$Well" "wishes" "LWishWell$Wishes;") (List.mem_of_getElem? (i := 1) rfl)) (fun _ h9 => h9) rfl dX3_withdrawWish_49 ?_
    refine va_get (ci := 7) (v := .ref (a 13)) (C := RX4) (T := TX4) (N := 6) hx hb hts hi_X4 hown hK hP 2 rfl rfl 3 (by decide) (hts (.fieldLink RX3 80 "WishWell$Wishes" "fates" "LWishWell$Row;") (List.mem_of_getElem? (i := 6) rfl)) (fun _ h9 => h9) rfl dX3_withdrawWish_52 ?_
    refine lv_iload_n hx hb dX3_withdrawWish_55 rfl (lv_at hl 3 rfl) ?_
    refine lv_iconst (v := 2) hx hb dX3_withdrawWish_56 (by decide) ?_
    refine kVv (As := [.int p0, .int 2]) (rest := []) B hK hN hP hD hS hA (c_X2_put l D cI cJ _ (wl cI a (uG G_9 9 (rPut 24 (G_9 9) p0 2)) g ++ rs) _ _ 24 (G_9 9) 13 25 rfl rfl (by decide) p0 2 rfl rfl) (cwV 2 hts gX3_withdrawWish_X2_put rfl rfl rfl (by decide +kernel) ⟨(Nat.le_of_ble_eq_true rfl), (Nat.le_of_ble_eq_true rfl)⟩) 5 13 rfl rfl rfl hl.1 rfl (Nat.le_of_ble_eq_true rfl) dX3_withdrawWish_57 ⟨(Nat.le_of_ble_eq_true rfl), (Nat.le_of_ble_eq_true rfl)⟩ rfl (fun H locs hP hD hS => ?_)
    obtain ⟨G_10, eG_10, h⟩ := lt_I h
    have hP : va_P D vwCl (wl cI a G_10 g ++ rs) H := by rw [eG_10]; exact hP
    have hD : va_D A (wl cI a G_10 g ++ rs) := by rw [eG_10]; exact hD
    refine lv_aload_n hx hb dX3_withdrawWish_60 rfl (lv_at hl 2 rfl) ?_
    refine lv_iconst (v := 0) hx hb dX3_withdrawWish_61 (by decide) ?_
    refine lv_aload_n hx hb dX3_withdrawWish_62 rfl (lv_at hl 2 rfl) ?_
    refine va_get (ci := 6) (v := .int (g 1)) (C := RX3) (T := TX3) (N := 9) hx hb hts hi_X3 hown hK hP 0 rfl rfl 5 (by decide) (hts (.fieldLink RX3 41 "WishWell$Well" "favour" "I") (List.mem_of_getElem? (i := 7) rfl)) (fun _ h9 => h9) rfl dX3_withdrawWish_63 ?_
    refine lv_iconst (v := 5) hx hb dX3_withdrawWish_66 (by decide) ?_
    refine lv_isub hx hb dX3_withdrawWish_67 ?_
    refine va_mmax hx hb (hml.trans hl.1.symm) hown (hts (.methodLink RX3 86 Lib.Math.max.name) (List.mem_of_getElem? (i := 8) rfl)) (hts (.static Lib.Math.max.name) (List.mem_of_getElem? (i := 9) rfl)) (hts (.initialized "java/lang/Math") (List.mem_of_getElem? (i := 10) rfl)) (hts (.code Lib.Math.max.name Lib.Math.max.code 2 (some .int)) (List.mem_of_getElem? (i := 11) rfl)) (Nat.le_of_ble_eq_true rfl) (Nat.le_of_ble_eq_true rfl) (Nat.le_of_ble_eq_true rfl) (Nat.le_of_ble_eq_true rfl) dX3_withdrawWish_68 ?_
    refine va_put (D := D) (ci := 6) (v := .int (if 0 < ((g 1) - 5) then (g 1) - 5 else 0)) (ty := .int) (C := RX3) (T := TX3) (N := 9) hx hb hts hi_X3 tyX3 tyX3_ok nmX3 hown hK hP hD hS 0 rfl rfl 5 (by decide) (hts (.fieldLink RX3 41 "WishWell$Well" "favour" "I") (List.mem_of_getElem? (i := 7) rfl)) (fun _ h9 => h9) rfl (by decide +kernel) rfl rfl (Nat.le_of_ble_eq_true rfl) dX3_withdrawWish_71 (fun H locs hP hD hS => ?_)
    obtain ⟨g_11, eg_11, h⟩ := lt_I h
    have hP : va_P D vwCl (wl cI a G_10 g_11 ++ rs) H := by rw [eg_11]; exact hP
    have hD : va_D A (wl cI a G_10 g_11 ++ rs) := by rw [eg_11]; exact hD
    refine lv_iload_n hx hb dX3_withdrawWish_74 rfl (lv_at hl 0 rfl) ?_
    obtain ⟨h0, h1, h2⟩ := o3 h
    exact eI hx hb hr hlk hP hS dX3_withdrawWish_75 (Nat.le_of_ble_eq_true rfl) (Nat.le_of_ble_eq_true rfl) h0 (by rw [h1, h2])
noncomputable def fX3_fishCoins_B5 (g : Nat → Int32) (p0 : Int32) (p1 : Int32) (x3_1 : Int32) (x4_1 : Int32) (G_1 : Nat → Nat → Int32) : Option ((Int32 × Int32 × (Nat → Nat → Int32)) ⊕ (Int32 × Int32 × (Nat → Nat → Int32))) := if p1 ≤ x4_1 then (some (.inr (x3_1, x4_1, G_1))) else (Option.bind (fX3_dearestIn G_1 g p0) (fun r_3 => if r_3 = (-1) then (some (.inr (x3_1, x4_1, G_1))) else (Option.bind (fX1_add G_1 p0 r_3 (-1)) (fun G_6 => lt_ (x3_1 + (rAt 6 (G_6 1) r_3)) (fun y3_8 => some (.inl (y3_8, x4_1 + 1, G_6)))))))
noncomputable def fX3_fishCoins (G : Nat → Nat → Int32) (g : Nat → Int32) (p0 : Int32) (p1 : Int32) : Option (Int32 × (Nat → Nat → Int32) × (Nat → Int32)) := b3 (lp (fun s => fX3_fishCoins_B5 g p0 p1 s.1 s.2.1 s.2.2) 21 (0, 0, G)) (fun z3_1 z4_1 Gz_1 => lt_ (uS g 4 ((g 4) + z3_1)) (fun g_9 => some (z3_1, Gz_1, g_9)))
set_option maxHeartbeats 4000000 in
set_option maxRecDepth 100000 in
theorem c_X3_fishCoins (l : Launch) (D : va_G) (cI cJ : ClassId) (a : Nat → Nat) (G : Nat → Nat → Int32) (g : Nat → Int32) (p0 : Int32) (p1 : Int32) (r' : Int32) (G' : Nat → Nat → Int32) (g' : Nat → Int32) (rs : va_W) (h : fX3_fishCoins G g p0 p1 = some (r', G', g')) : Ci l yX3_fishCoins wsX3_fishCoins ({ frames := 3, cells := 0, slots := 0, locals := 68 } : Room) D cI cJ ([.ref (a 0), .int p0, .int p1] : List Value) (wl cI a G g ++ rs) r' (wl cI a G' g' ++ rs) := by
  refine Ci.mk (cc := cX3_fishCoins) (maxL := 6) (ret := (some .int)) (by decide) rfl (Nat.le_of_ble_eq_true rfl) ?_
  intro p e s m below meth c A ls B hr hlk hK hN hA hP hD hl
  obtain ⟨hx, hb, hml, hown, hts⟩ := id B
  have hi_X0 : ∀ w ∈ wsX00, w ∈ wsX3_fishCoins := fun _ h => List.mem_cons_of_mem _ (List.mem_append_left _ (List.mem_append_left _ (List.mem_append_left _ (List.mem_append_right _ (h)))))
  have hi_X3 : ∀ w ∈ wsX30, w ∈ wsX3_fishCoins := fun _ h => List.mem_cons_of_mem _ (List.mem_append_left _ (List.mem_append_left _ (List.mem_append_left _ (List.mem_append_left _ (List.mem_append_right _ (h))))))
  have hS : va_S A s.heap s.heap [] := va_S.rf
  have hl : lv_has ls 6 [(0, .ref (a 0)), (1, .int p0), (2, .int p1)] := hl
  unfold fX3_fishCoins at h
  refine lv_iconst (v := 0) hx hb dX3_fishCoins_0 (by decide) ?_
  refine lv_istore_n (lv' := [(3, .int 0), (0, .ref (a 0)), (1, .int p0), (2, .int p1)]) hx hb dX3_fishCoins_1 rfl hl (by decide) rfl (fun ls hl => ?_)
  refine lv_iconst (v := 0) hx hb dX3_fishCoins_2 (by decide) ?_
  refine lv_istore (lv' := [(4, .int 0), (3, .int 0), (0, .ref (a 0)), (1, .int p0), (2, .int p1)]) hx hb dX3_fishCoins_3 hl (by decide) rfl (fun ls hl => ?_)
  have L5_1 : ∀ (n : Nat) (x3_1 : Int32) (x4_1 : Int32) (G_1 : Nat → Nat → Int32) (z3_1 : Int32) (z4_1 : Int32) (Gz_1 : Nat → Nat → Int32) (_ : lp (fun s => fX3_fishCoins_B5 g p0 p1 s.1 s.2.1 s.2.2) n (x3_1, x4_1, G_1) = some (z3_1, z4_1, Gz_1)) (_ : ∀ (H : Heap) (locs : List Loc) (ls : Array Slot), va_P D vwCl (wl cI a Gz_1 g ++ rs) H → va_D A (wl cI a Gz_1 g ++ rs) → va_S A s.heap H locs → lv_has ls 6 [(0, .ref (a 0)), (1, .int p0), (2, .int p1), (3, .int z3_1), (4, .int z4_1)] → W p l e (headSpec wsX3_fishCoins ({ frames := 3, cells := 0, slots := 0, locals := 68 } : Room)).room s m ([.ref (a 0), .int p0, .int p1] : List Value).toArray below meth c H locs (0) (0) (QI below D (wl cI a G' g' ++ rs) r' ([.ref (a 0), .int p0, .int p1] : List Value).toArray s 0 0 A) (F0 m 59 ls [])) (H : Heap) (locs : List Loc) (ls : Array Slot), va_P D vwCl (wl cI a G_1 g ++ rs) H → va_D A (wl cI a G_1 g ++ rs) → va_S A s.heap H locs → lv_has ls 6 [(0, .ref (a 0)), (1, .int p0), (2, .int p1), (3, .int x3_1), (4, .int x4_1)] → W p l e (headSpec wsX3_fishCoins ({ frames := 3, cells := 0, slots := 0, locals := 68 } : Room)).room s m ([.ref (a 0), .int p0, .int p1] : List Value).toArray below meth c H locs (0) (0) (QI below D (wl cI a G' g' ++ rs) r' ([.ref (a 0), .int p0, .int p1] : List Value).toArray s 0 0 A) (F0 m 5 ls []) := by
    intro n
    induction n with
    | zero => intro x3_1 x4_1 G_1 z3_1 z4_1 Gz_1 h; exact (lp_0 h).elim
    | succ n ih =>
      intro x3_1 x4_1 G_1 z3_1 z4_1 Gz_1 h kk H locs ls hP hD hS hl
      obtain ⟨z, h, hz⟩ := lp_walk h
      have h : fX3_fishCoins_B5 g p0 p1 x3_1 x4_1 G_1 = some z := h
      unfold fX3_fishCoins_B5 at h
      refine lv_iload hx hb dX3_fishCoins_5 (lv_at hl 4 rfl) ?_
      refine lv_iload_n hx hb dX3_fishCoins_7 rfl (lv_at hl 2 rfl) ?_
      refine lv_icmp_ge (tgt := 59) hx hb dX3_fishCoins_8 (by decide) (fun c_2 => ?_) (fun c_2 => ?_)
      · have h := ip_ h c_2
        cases lz_e h hz
        exact kk _ _ _ hP hD hS (lv_sub hl [0, 1, 2, 3, 4] rfl)
      · have h := in_ h c_2
        refine lv_aload_n hx hb dX3_fishCoins_11 rfl (lv_at hl 0 rfl) ?_
        refine lv_iload_n hx hb dX3_fishCoins_12 rfl (lv_at hl 1 rfl) ?_
        obtain ⟨r_3, hx_4, h⟩ := bd_I h
        refine kVi (As := [.int p0]) (rest := []) B hK hN hP hD hS hA (c_X3_dearestIn l D cI cJ a G_1 g p0 r_3 rs hx_4) (cwV 1 hts gX3_fishCoins_X3_dearestIn rfl rfl rfl (by decide +kernel) ⟨(Nat.le_of_ble_eq_true rfl), (Nat.le_of_ble_eq_true rfl)⟩) 6 0 rfl rfl rfl hl.1 rfl (Nat.le_of_ble_eq_true rfl) dX3_fishCoins_13 ⟨(Nat.le_of_ble_eq_true rfl), (Nat.le_of_ble_eq_true rfl)⟩ rfl (fun H locs hP hD hS => ?_)
        refine lv_istore (lv' := [(5, .int r_3), (0, .ref (a 0)), (1, .int p0), (2, .int p1), (3, .int x3_1), (4, .int x4_1)]) hx hb dX3_fishCoins_16 hl (by decide) rfl (fun ls hl => ?_)
        refine lv_iload hx hb dX3_fishCoins_18 (lv_at hl 0 rfl) ?_
        refine lv_iconst (v := (-1)) hx hb dX3_fishCoins_20 (by decide) ?_
        refine lv_icmp_ne (tgt := 27) hx hb dX3_fishCoins_21 (by decide) (fun c_5 => ?_) (fun c_5 => ?_)
        · have h := in_ h c_5
          refine lv_aload_n hx hb dX3_fishCoins_27 rfl (lv_at hl 1 rfl) ?_
          refine va_get (ci := 6) (v := .ref (a 3)) (C := RX3) (T := TX3) (N := 9) hx hb hts hi_X3 hown hK hP 0 rfl rfl 2 (by decide) (hts (.fieldLink RX3 28 "WishWell$Well" "layers" "LWishWell$Layers;") (List.mem_of_getElem? (i := 1) rfl)) (fun _ h9 => h9) rfl dX3_fishCoins_28 ?_
          refine lv_iload_n hx hb dX3_fishCoins_31 rfl (lv_at hl 2 rfl) ?_
          refine lv_iload hx hb dX3_fishCoins_32 (lv_at hl 0 rfl) ?_
          refine lv_iconst (v := (-1)) hx hb dX3_fishCoins_34 (by decide) ?_
          obtain ⟨G_6, hx_7, h⟩ := bd_I h
          refine kVv (As := [.int p0, .int r_3, .int (-1)]) (rest := []) B hK hN hP hD hS hA (c_X1_add l D cI cJ a G_1 g p0 r_3 (-1) G_6 rs hx_7) (cwV 3 hts gX3_fishCoins_X1_add rfl rfl rfl (by decide +kernel) ⟨(Nat.le_of_ble_eq_true rfl), (Nat.le_of_ble_eq_true rfl)⟩) 4 3 rfl rfl rfl hl.1 rfl (Nat.le_of_ble_eq_true rfl) dX3_fishCoins_35 ⟨(Nat.le_of_ble_eq_true rfl), (Nat.le_of_ble_eq_true rfl)⟩ rfl (fun H locs hP hD hS => ?_)
          refine lv_iload_n hx hb dX3_fishCoins_38 rfl (lv_at hl 4 rfl) ?_
          refine lv_aload_n hx hb dX3_fishCoins_39 rfl (lv_at hl 1 rfl) ?_
          refine va_get (ci := 6) (v := .ref (a 1)) (C := RX3) (T := TX3) (N := 9) hx hb hts hi_X3 hown hK hP 0 rfl rfl 0 (by decide) (hts (.fieldLink RX3 12 "WishWell$Well" "lands" "LWishWell$Lands;") (List.mem_of_getElem? (i := 2) rfl)) (fun _ h9 => h9) rfl dX3_fishCoins_40 ?_
          refine va_get (ci := 3) (v := .ref (a 5)) (C := RX0) (T := TX0) (N := 6) hx hb hts hi_X0 hown hK hP 1 rfl rfl 0 (by decide) (hts (.fieldLink RX3 55 "WishWell$Lands" "values" "LWishWell$Row;") (List.mem_of_getElem? (i := 3) rfl)) (fun _ h9 => h9) rfl dX3_fishCoins_43 ?_
          refine lv_iload hx hb dX3_fishCoins_46 (lv_at hl 0 rfl) ?_
          refine kVi (As := [.int r_3]) (rest := [.int x3_1]) B hK hN hP hD hS hA (c_X2_at l D cI cJ _ _ _ 6 (G_6 1) 5 17 rfl rfl (by decide) r_3) (cwV 1 hts gX3_fishCoins_X2_at rfl rfl rfl (by decide +kernel) ⟨(Nat.le_of_ble_eq_true rfl), (Nat.le_of_ble_eq_true rfl)⟩) 5 5 rfl rfl rfl hl.1 rfl (Nat.le_of_ble_eq_true rfl) dX3_fishCoins_48 ⟨(Nat.le_of_ble_eq_true rfl), (Nat.le_of_ble_eq_true rfl)⟩ rfl (fun H locs hP hD hS => ?_)
          refine lv_iadd hx hb dX3_fishCoins_51 ?_
          obtain ⟨y3_8, ey3_8, h⟩ := lt_I h
          rw [← ey3_8]
          refine lv_istore_n (lv' := [(3, .int y3_8), (5, .int r_3), (0, .ref (a 0)), (1, .int p0), (2, .int p1), (4, .int x4_1)]) hx hb dX3_fishCoins_52 rfl hl (by decide) rfl (fun ls hl => ?_)
          refine lv_iinc (v := x4_1 + 1) (lv' := [(4, .int (x4_1 + 1)), (3, .int y3_8), (5, .int r_3), (0, .ref (a 0)), (1, .int p0), (2, .int p1)]) hx hb dX3_fishCoins_53 hl (k := 5) rfl rfl (by decide) rfl (fun ls hl => ?_)
          refine lv_goto (tgt := 5) hx hb dX3_fishCoins_56 (by decide) ?_
          exact ih y3_8 (x4_1 + 1) G_6 _ _ _ (lz_c h hz) kk _ _ _ hP hD hS (lv_sub hl [3, 4, 5, 1, 0] rfl)
        · have h := ip_ h c_5
          refine lv_goto (tgt := 59) hx hb dX3_fishCoins_24 (by decide) ?_
          cases lz_e h hz
          exact kk _ _ _ hP hD hS (lv_sub hl [1, 2, 3, 4, 5] rfl)
  obtain ⟨z3_1, z4_1, Gz_1, hl_1, h⟩ := b3_I h
  refine L5_1 21 0 0 G z3_1 z4_1 Gz_1 hl_1 (fun H locs ls hP hD hS hl => ?_) _ _ _ hP hD hS (lv_sub hl [2, 3, 4, 1, 0] rfl)
  refine lv_aload_n hx hb dX3_fishCoins_59 rfl (lv_at hl 0 rfl) ?_
  refine lv_dup hx hb dX3_fishCoins_60 rfl ?_
  refine va_get (ci := 6) (v := .int (g 4)) (C := RX3) (T := TX3) (N := 9) hx hb hts hi_X3 hown hK hP 0 rfl rfl 8 (by decide) (hts (.fieldLink RX3 92 "WishWell$Well" "fished" "I") (List.mem_of_getElem? (i := 4) rfl)) (fun _ h9 => h9) rfl dX3_fishCoins_61 ?_
  refine lv_iload_n hx hb dX3_fishCoins_64 rfl (lv_at hl 3 rfl) ?_
  refine lv_iadd hx hb dX3_fishCoins_65 ?_
  refine va_put (D := D) (ci := 6) (v := .int ((g 4) + z3_1)) (ty := .int) (C := RX3) (T := TX3) (N := 9) hx hb hts hi_X3 tyX3 tyX3_ok nmX3 hown hK hP hD hS 0 rfl rfl 8 (by decide) (hts (.fieldLink RX3 92 "WishWell$Well" "fished" "I") (List.mem_of_getElem? (i := 4) rfl)) (fun _ h9 => h9) rfl (by decide +kernel) rfl rfl (Nat.le_of_ble_eq_true rfl) dX3_fishCoins_66 (fun H locs hP hD hS => ?_)
  obtain ⟨g_9, eg_9, h⟩ := lt_I h
  have hP : va_P D vwCl (wl cI a Gz_1 g_9 ++ rs) H := by rw [eg_9]; exact hP
  have hD : va_D A (wl cI a Gz_1 g_9 ++ rs) := by rw [eg_9]; exact hD
  refine lv_iload_n hx hb dX3_fishCoins_69 rfl (lv_at hl 3 rfl) ?_
  obtain ⟨h0, h1, h2⟩ := o3 h
  exact eI hx hb hr hlk hP hS dX3_fishCoins_70 (Nat.le_of_ble_eq_true rfl) (Nat.le_of_ble_eq_true rfl) h0 (by rw [h1, h2])
noncomputable def fX3_valueIn_B4 (G : Nat → Nat → Int32) (g : Nat → Int32) (p0 : Int32) (x2_1 : Int32) (x3_1 : Int32)  : Option ((Int32 × Int32) ⊕ (Int32 × Int32)) := if (g 5) ≤ x3_1 then (some (.inr (x2_1, x3_1))) else (lt_ (x2_1 + ((fX1_at G p0 x3_1) * (rAt 6 (G 1) x3_1))) (fun y2_3 => some (.inl (y2_3, x3_1 + 1))))
noncomputable def fX3_valueIn (G : Nat → Nat → Int32) (g : Nat → Int32) (p0 : Int32) : Option (Int32) := b2 (lp (fun s => fX3_valueIn_B4 G g p0 s.1 s.2) 7 (0, 0)) (fun z2_1 z3_1 => some z2_1)
set_option maxHeartbeats 4000000 in
set_option maxRecDepth 100000 in
theorem c_X3_valueIn (l : Launch) (D : va_G) (cI cJ : ClassId) (a : Nat → Nat) (G : Nat → Nat → Int32) (g : Nat → Int32) (p0 : Int32) (r' : Int32) (rs : va_W) (h : fX3_valueIn G g p0 = some r') : Ci l yX3_valueIn wsX3_valueIn ({ frames := 2, cells := 0, slots := 0, locals := 44 } : Room) D cI cJ ([.ref (a 0), .int p0] : List Value) (wl cI a G g ++ rs) r' (wl cI a G g ++ rs) := by
  refine Ci.mk (cc := cX3_valueIn) (maxL := 4) (ret := (some .int)) (by decide) rfl (Nat.le_of_ble_eq_true rfl) ?_
  intro p e s m below meth c A ls B hr hlk hK hN hA hP hD hl
  obtain ⟨hx, hb, hml, hown, hts⟩ := id B
  have hi_X0 : ∀ w ∈ wsX00, w ∈ wsX3_valueIn := fun _ h => List.mem_cons_of_mem _ (List.mem_append_left _ (List.mem_append_left _ (List.mem_append_left _ (List.mem_append_right _ (h)))))
  have hi_X3 : ∀ w ∈ wsX30, w ∈ wsX3_valueIn := fun _ h => List.mem_cons_of_mem _ (List.mem_append_left _ (List.mem_append_left _ (List.mem_append_left _ (List.mem_append_left _ (List.mem_append_right _ (h))))))
  have hS : va_S A s.heap s.heap [] := va_S.rf
  have hl : lv_has ls 4 [(0, .ref (a 0)), (1, .int p0)] := hl
  unfold fX3_valueIn at h
  refine lv_iconst (v := 0) hx hb dX3_valueIn_0 (by decide) ?_
  refine lv_istore_n (lv' := [(2, .int 0), (0, .ref (a 0)), (1, .int p0)]) hx hb dX3_valueIn_1 rfl hl (by decide) rfl (fun ls hl => ?_)
  refine lv_iconst (v := 0) hx hb dX3_valueIn_2 (by decide) ?_
  refine lv_istore_n (lv' := [(3, .int 0), (2, .int 0), (0, .ref (a 0)), (1, .int p0)]) hx hb dX3_valueIn_3 rfl hl (by decide) rfl (fun ls hl => ?_)
  have L4_1 : ∀ (n : Nat) (x2_1 : Int32) (x3_1 : Int32)  (z2_1 : Int32) (z3_1 : Int32)  (_ : lp (fun s => fX3_valueIn_B4 G g p0 s.1 s.2) n (x2_1, x3_1) = some (z2_1, z3_1)) (_ : ∀ (H : Heap) (locs : List Loc) (ls : Array Slot), va_P D vwCl (wl cI a G g ++ rs) H → va_D A (wl cI a G g ++ rs) → va_S A s.heap H locs → lv_has ls 4 [(0, .ref (a 0)), (1, .int p0), (2, .int z2_1), (3, .int z3_1)] → W p l e (headSpec wsX3_valueIn ({ frames := 2, cells := 0, slots := 0, locals := 44 } : Room)).room s m ([.ref (a 0), .int p0] : List Value).toArray below meth c H locs (0) (0) (QI below D (wl cI a G g ++ rs) r' ([.ref (a 0), .int p0] : List Value).toArray s 0 0 A) (F0 m 45 ls [])) (H : Heap) (locs : List Loc) (ls : Array Slot), va_P D vwCl (wl cI a G g ++ rs) H → va_D A (wl cI a G g ++ rs) → va_S A s.heap H locs → lv_has ls 4 [(0, .ref (a 0)), (1, .int p0), (2, .int x2_1), (3, .int x3_1)] → W p l e (headSpec wsX3_valueIn ({ frames := 2, cells := 0, slots := 0, locals := 44 } : Room)).room s m ([.ref (a 0), .int p0] : List Value).toArray below meth c H locs (0) (0) (QI below D (wl cI a G g ++ rs) r' ([.ref (a 0), .int p0] : List Value).toArray s 0 0 A) (F0 m 4 ls []) := by
    intro n
    induction n with
    | zero => intro x2_1 x3_1 z2_1 z3_1 h; exact (lp_0 h).elim
    | succ n ih =>
      intro x2_1 x3_1 z2_1 z3_1 h kk H locs ls hP hD hS hl
      obtain ⟨z, h, hz⟩ := lp_walk h
      have h : fX3_valueIn_B4 G g p0 x2_1 x3_1 = some z := h
      unfold fX3_valueIn_B4 at h
      refine lv_iload_n hx hb dX3_valueIn_4 rfl (lv_at hl 3 rfl) ?_
      refine lv_aload_n hx hb dX3_valueIn_5 rfl (lv_at hl 0 rfl) ?_
      refine va_get (ci := 6) (v := .ref (a 1)) (C := RX3) (T := TX3) (N := 9) hx hb hts hi_X3 hown hK hP 0 rfl rfl 0 (by decide) (hts (.fieldLink RX3 12 "WishWell$Well" "lands" "LWishWell$Lands;") (List.mem_of_getElem? (i := 1) rfl)) (fun _ h9 => h9) rfl dX3_valueIn_6 ?_
      refine va_get (ci := 3) (v := .int (g 5)) (C := RX0) (T := TX0) (N := 6) hx hb hts hi_X0 hown hK hP 1 rfl rfl 5 (by decide) (hts (.fieldLink RX3 95 "WishWell$Lands" "size" "I") (List.mem_of_getElem? (i := 2) rfl)) (fun _ h9 => h9) rfl dX3_valueIn_9 ?_
      refine lv_icmp_ge (tgt := 45) hx hb dX3_valueIn_12 (by decide) (fun c_2 => ?_) (fun c_2 => ?_)
      · have h := ip_ h c_2
        cases lz_e h hz
        exact kk _ _ _ hP hD hS (lv_sub hl [0, 1, 2, 3] rfl)
      · have h := in_ h c_2
        refine lv_iload_n hx hb dX3_valueIn_15 rfl (lv_at hl 2 rfl) ?_
        refine lv_aload_n hx hb dX3_valueIn_16 rfl (lv_at hl 0 rfl) ?_
        refine va_get (ci := 6) (v := .ref (a 3)) (C := RX3) (T := TX3) (N := 9) hx hb hts hi_X3 hown hK hP 0 rfl rfl 2 (by decide) (hts (.fieldLink RX3 28 "WishWell$Well" "layers" "LWishWell$Layers;") (List.mem_of_getElem? (i := 3) rfl)) (fun _ h9 => h9) rfl dX3_valueIn_17 ?_
        refine lv_iload_n hx hb dX3_valueIn_20 rfl (lv_at hl 1 rfl) ?_
        refine lv_iload_n hx hb dX3_valueIn_21 rfl (lv_at hl 3 rfl) ?_
        refine kVi (As := [.int p0, .int x3_1]) (rest := [.int x2_1]) B hK hN hP hD hS hA (c_X1_at l D cI cJ a G g p0 x3_1 rs _ rfl) (cwV 2 hts gX3_valueIn_X1_at rfl rfl rfl (by decide +kernel) ⟨(Nat.le_of_ble_eq_true rfl), (Nat.le_of_ble_eq_true rfl)⟩) 4 3 rfl rfl rfl hl.1 rfl (Nat.le_of_ble_eq_true rfl) dX3_valueIn_22 ⟨(Nat.le_of_ble_eq_true rfl), (Nat.le_of_ble_eq_true rfl)⟩ rfl (fun H locs hP hD hS => ?_)
        refine lv_aload_n hx hb dX3_valueIn_25 rfl (lv_at hl 0 rfl) ?_
        refine va_get (ci := 6) (v := .ref (a 1)) (C := RX3) (T := TX3) (N := 9) hx hb hts hi_X3 hown hK hP 0 rfl rfl 0 (by decide) (hts (.fieldLink RX3 12 "WishWell$Well" "lands" "LWishWell$Lands;") (List.mem_of_getElem? (i := 1) rfl)) (fun _ h9 => h9) rfl dX3_valueIn_26 ?_
        refine va_get (ci := 3) (v := .ref (a 5)) (C := RX0) (T := TX0) (N := 6) hx hb hts hi_X0 hown hK hP 1 rfl rfl 0 (by decide) (hts (.fieldLink RX3 55 "WishWell$Lands" "values" "LWishWell$Row;") (List.mem_of_getElem? (i := 4) rfl)) (fun _ h9 => h9) rfl dX3_valueIn_29 ?_
        refine lv_iload_n hx hb dX3_valueIn_32 rfl (lv_at hl 3 rfl) ?_
        refine kVi (As := [.int x3_1]) (rest := [.int (fX1_at G p0 x3_1), .int x2_1]) B hK hN hP hD hS hA (c_X2_at l D cI cJ _ _ _ 6 (G 1) 5 17 rfl rfl (by decide) x3_1) (cwV 1 hts gX3_valueIn_X2_at rfl rfl rfl (by decide +kernel) ⟨(Nat.le_of_ble_eq_true rfl), (Nat.le_of_ble_eq_true rfl)⟩) 5 5 rfl rfl rfl hl.1 rfl (Nat.le_of_ble_eq_true rfl) dX3_valueIn_33 ⟨(Nat.le_of_ble_eq_true rfl), (Nat.le_of_ble_eq_true rfl)⟩ rfl (fun H locs hP hD hS => ?_)
        refine lv_imul hx hb dX3_valueIn_36 ?_
        refine lv_iadd hx hb dX3_valueIn_37 ?_
        obtain ⟨y2_3, ey2_3, h⟩ := lt_I h
        rw [← ey2_3]
        refine lv_istore_n (lv' := [(2, .int y2_3), (0, .ref (a 0)), (1, .int p0), (3, .int x3_1)]) hx hb dX3_valueIn_38 rfl hl (by decide) rfl (fun ls hl => ?_)
        refine lv_iinc (v := x3_1 + 1) (lv' := [(3, .int (x3_1 + 1)), (2, .int y2_3), (0, .ref (a 0)), (1, .int p0)]) hx hb dX3_valueIn_39 hl (k := 3) rfl rfl (by decide) rfl (fun ls hl => ?_)
        refine lv_goto (tgt := 4) hx hb dX3_valueIn_42 (by decide) ?_
        exact ih y2_3 (x3_1 + 1) _ _ (lz_c h hz) kk _ _ _ hP hD hS (lv_sub hl [2, 3, 1, 0] rfl)
  obtain ⟨z2_1, z3_1, hl_1, h⟩ := b2_I h
  refine L4_1 7 0 0  z2_1 z3_1 hl_1 (fun H locs ls hP hD hS hl => ?_) _ _ _ hP hD hS (lv_sub hl [2, 3, 1, 0] rfl)
  refine lv_iload_n hx hb dX3_valueIn_45 rfl (lv_at hl 2 rfl) ?_
  have h0 := o1 h
  exact eI hx hb hr hlk hP hS dX3_valueIn_46 (Nat.le_of_ble_eq_true rfl) (Nat.le_of_ble_eq_true rfl) h0 rfl
noncomputable def fX3_valueOfAll_B4 (G : Nat → Nat → Int32) (g : Nat → Int32) (x1_1 : Int32) (x2_1 : Int32)  : Option ((Int32 × Int32) ⊕ (Int32 × Int32)) := if 5 ≤ x2_1 then (some (.inr (x1_1, x2_1))) else (Option.bind (fX3_valueIn G g x2_1) (fun r_3 => lt_ (x1_1 + r_3) (fun y1_5 => some (.inl (y1_5, x2_1 + 1)))))
noncomputable def fX3_valueOfAll (G : Nat → Nat → Int32) (g : Nat → Int32) : Option (Int32) := b2 (lp (fun s => fX3_valueOfAll_B4 G g s.1 s.2) 6 (0, 0)) (fun z1_1 z2_1 => some z1_1)
set_option maxHeartbeats 4000000 in
set_option maxRecDepth 100000 in
theorem c_X3_valueOfAll (l : Launch) (D : va_G) (cI cJ : ClassId) (a : Nat → Nat) (G : Nat → Nat → Int32) (g : Nat → Int32) (r' : Int32) (rs : va_W) (h : fX3_valueOfAll G g = some r') : Ci l yX3_valueOfAll wsX3_valueOfAll ({ frames := 3, cells := 0, slots := 0, locals := 67 } : Room) D cI cJ ([.ref (a 0)] : List Value) (wl cI a G g ++ rs) r' (wl cI a G g ++ rs) := by
  refine Ci.mk (cc := cX3_valueOfAll) (maxL := 3) (ret := (some .int)) (by decide) rfl (Nat.le_of_ble_eq_true rfl) ?_
  intro p e s m below meth c A ls B hr hlk hK hN hA hP hD hl
  obtain ⟨hx, hb, hml, hown, hts⟩ := id B
  have hS : va_S A s.heap s.heap [] := va_S.rf
  have hl : lv_has ls 3 [(0, .ref (a 0))] := hl
  unfold fX3_valueOfAll at h
  refine lv_iconst (v := 0) hx hb dX3_valueOfAll_0 (by decide) ?_
  refine lv_istore_n (lv' := [(1, .int 0), (0, .ref (a 0))]) hx hb dX3_valueOfAll_1 rfl hl (by decide) rfl (fun ls hl => ?_)
  refine lv_iconst (v := 0) hx hb dX3_valueOfAll_2 (by decide) ?_
  refine lv_istore_n (lv' := [(2, .int 0), (1, .int 0), (0, .ref (a 0))]) hx hb dX3_valueOfAll_3 rfl hl (by decide) rfl (fun ls hl => ?_)
  have L4_1 : ∀ (n : Nat) (x1_1 : Int32) (x2_1 : Int32)  (z1_1 : Int32) (z2_1 : Int32)  (_ : lp (fun s => fX3_valueOfAll_B4 G g s.1 s.2) n (x1_1, x2_1) = some (z1_1, z2_1)) (_ : ∀ (H : Heap) (locs : List Loc) (ls : Array Slot), va_P D vwCl (wl cI a G g ++ rs) H → va_D A (wl cI a G g ++ rs) → va_S A s.heap H locs → lv_has ls 3 [(0, .ref (a 0)), (1, .int z1_1), (2, .int z2_1)] → W p l e (headSpec wsX3_valueOfAll ({ frames := 3, cells := 0, slots := 0, locals := 67 } : Room)).room s m ([.ref (a 0)] : List Value).toArray below meth c H locs (0) (0) (QI below D (wl cI a G g ++ rs) r' ([.ref (a 0)] : List Value).toArray s 0 0 A) (F0 m 23 ls [])) (H : Heap) (locs : List Loc) (ls : Array Slot), va_P D vwCl (wl cI a G g ++ rs) H → va_D A (wl cI a G g ++ rs) → va_S A s.heap H locs → lv_has ls 3 [(0, .ref (a 0)), (1, .int x1_1), (2, .int x2_1)] → W p l e (headSpec wsX3_valueOfAll ({ frames := 3, cells := 0, slots := 0, locals := 67 } : Room)).room s m ([.ref (a 0)] : List Value).toArray below meth c H locs (0) (0) (QI below D (wl cI a G g ++ rs) r' ([.ref (a 0)] : List Value).toArray s 0 0 A) (F0 m 4 ls []) := by
    intro n
    induction n with
    | zero => intro x1_1 x2_1 z1_1 z2_1 h; exact (lp_0 h).elim
    | succ n ih =>
      intro x1_1 x2_1 z1_1 z2_1 h kk H locs ls hP hD hS hl
      obtain ⟨z, h, hz⟩ := lp_walk h
      have h : fX3_valueOfAll_B4 G g x1_1 x2_1 = some z := h
      unfold fX3_valueOfAll_B4 at h
      refine lv_iload_n hx hb dX3_valueOfAll_4 rfl (lv_at hl 2 rfl) ?_
      refine lv_iconst (v := 5) hx hb dX3_valueOfAll_5 (by decide) ?_
      refine lv_icmp_ge (tgt := 23) hx hb dX3_valueOfAll_6 (by decide) (fun c_2 => ?_) (fun c_2 => ?_)
      · have h := ip_ h c_2
        cases lz_e h hz
        exact kk _ _ _ hP hD hS (lv_sub hl [0, 1, 2] rfl)
      · have h := in_ h c_2
        refine lv_iload_n hx hb dX3_valueOfAll_9 rfl (lv_at hl 1 rfl) ?_
        refine lv_aload_n hx hb dX3_valueOfAll_10 rfl (lv_at hl 0 rfl) ?_
        refine lv_iload_n hx hb dX3_valueOfAll_11 rfl (lv_at hl 2 rfl) ?_
        obtain ⟨r_3, hx_4, h⟩ := bd_I h
        refine kVi (As := [.int x2_1]) (rest := [.int x1_1]) B hK hN hP hD hS hA (c_X3_valueIn l D cI cJ a G g x2_1 r_3 rs hx_4) (cwV 1 hts gX3_valueOfAll_X3_valueIn rfl rfl rfl (by decide +kernel) ⟨(Nat.le_of_ble_eq_true rfl), (Nat.le_of_ble_eq_true rfl)⟩) 6 0 rfl rfl rfl hl.1 rfl (Nat.le_of_ble_eq_true rfl) dX3_valueOfAll_12 ⟨(Nat.le_of_ble_eq_true rfl), (Nat.le_of_ble_eq_true rfl)⟩ rfl (fun H locs hP hD hS => ?_)
        refine lv_iadd hx hb dX3_valueOfAll_15 ?_
        obtain ⟨y1_5, ey1_5, h⟩ := lt_I h
        rw [← ey1_5]
        refine lv_istore_n (lv' := [(1, .int y1_5), (0, .ref (a 0)), (2, .int x2_1)]) hx hb dX3_valueOfAll_16 rfl hl (by decide) rfl (fun ls hl => ?_)
        refine lv_iinc (v := x2_1 + 1) (lv' := [(2, .int (x2_1 + 1)), (1, .int y1_5), (0, .ref (a 0))]) hx hb dX3_valueOfAll_17 hl (k := 2) rfl rfl (by decide) rfl (fun ls hl => ?_)
        refine lv_goto (tgt := 4) hx hb dX3_valueOfAll_20 (by decide) ?_
        exact ih y1_5 (x2_1 + 1) _ _ (lz_c h hz) kk _ _ _ hP hD hS (lv_sub hl [2, 1, 0] rfl)
  obtain ⟨z1_1, z2_1, hl_1, h⟩ := b2_I h
  refine L4_1 6 0 0  z1_1 z2_1 hl_1 (fun H locs ls hP hD hS hl => ?_) _ _ _ hP hD hS (lv_sub hl [2, 1, 0] rfl)
  refine lv_iload_n hx hb dX3_valueOfAll_23 rfl (lv_at hl 1 rfl) ?_
  have h0 := o1 h
  exact eI hx hb hr hlk hP hS dX3_valueOfAll_24 (Nat.le_of_ble_eq_true rfl) (Nat.le_of_ble_eq_true rfl) h0 rfl
noncomputable def fX3_coinsInAll_B4 (G : Nat → Nat → Int32) (x1_1 : Int32) (x2_1 : Int32)  : Option ((Int32 × Int32) ⊕ (Int32 × Int32)) := if 5 ≤ x2_1 then (some (.inr (x1_1, x2_1))) else (Option.bind (fX1_coinsIn G x2_1) (fun r_3 => lt_ (x1_1 + r_3) (fun y1_5 => some (.inl (y1_5, x2_1 + 1)))))
noncomputable def fX3_coinsInAll (G : Nat → Nat → Int32) : Option (Int32) := b2 (lp (fun s => fX3_coinsInAll_B4 G s.1 s.2) 6 (0, 0)) (fun z1_1 z2_1 => some z1_1)
set_option maxHeartbeats 4000000 in
set_option maxRecDepth 100000 in
theorem c_X3_coinsInAll (l : Launch) (D : va_G) (cI cJ : ClassId) (a : Nat → Nat) (G : Nat → Nat → Int32) (g : Nat → Int32) (r' : Int32) (rs : va_W) (h : fX3_coinsInAll G = some r') : Ci l yX3_coinsInAll wsX3_coinsInAll ({ frames := 3, cells := 0, slots := 0, locals := 67 } : Room) D cI cJ ([.ref (a 0)] : List Value) (wl cI a G g ++ rs) r' (wl cI a G g ++ rs) := by
  refine Ci.mk (cc := cX3_coinsInAll) (maxL := 3) (ret := (some .int)) (by decide) rfl (Nat.le_of_ble_eq_true rfl) ?_
  intro p e s m below meth c A ls B hr hlk hK hN hA hP hD hl
  obtain ⟨hx, hb, hml, hown, hts⟩ := id B
  have hi_X3 : ∀ w ∈ wsX30, w ∈ wsX3_coinsInAll := fun _ h => List.mem_cons_of_mem _ (List.mem_append_left _ (List.mem_append_left _ (List.mem_append_left _ (List.mem_append_right _ (h)))))
  have hS : va_S A s.heap s.heap [] := va_S.rf
  have hl : lv_has ls 3 [(0, .ref (a 0))] := hl
  unfold fX3_coinsInAll at h
  refine lv_iconst (v := 0) hx hb dX3_coinsInAll_0 (by decide) ?_
  refine lv_istore_n (lv' := [(1, .int 0), (0, .ref (a 0))]) hx hb dX3_coinsInAll_1 rfl hl (by decide) rfl (fun ls hl => ?_)
  refine lv_iconst (v := 0) hx hb dX3_coinsInAll_2 (by decide) ?_
  refine lv_istore_n (lv' := [(2, .int 0), (1, .int 0), (0, .ref (a 0))]) hx hb dX3_coinsInAll_3 rfl hl (by decide) rfl (fun ls hl => ?_)
  have L4_1 : ∀ (n : Nat) (x1_1 : Int32) (x2_1 : Int32)  (z1_1 : Int32) (z2_1 : Int32)  (_ : lp (fun s => fX3_coinsInAll_B4 G s.1 s.2) n (x1_1, x2_1) = some (z1_1, z2_1)) (_ : ∀ (H : Heap) (locs : List Loc) (ls : Array Slot), va_P D vwCl (wl cI a G g ++ rs) H → va_D A (wl cI a G g ++ rs) → va_S A s.heap H locs → lv_has ls 3 [(0, .ref (a 0)), (1, .int z1_1), (2, .int z2_1)] → W p l e (headSpec wsX3_coinsInAll ({ frames := 3, cells := 0, slots := 0, locals := 67 } : Room)).room s m ([.ref (a 0)] : List Value).toArray below meth c H locs (0) (0) (QI below D (wl cI a G g ++ rs) r' ([.ref (a 0)] : List Value).toArray s 0 0 A) (F0 m 26 ls [])) (H : Heap) (locs : List Loc) (ls : Array Slot), va_P D vwCl (wl cI a G g ++ rs) H → va_D A (wl cI a G g ++ rs) → va_S A s.heap H locs → lv_has ls 3 [(0, .ref (a 0)), (1, .int x1_1), (2, .int x2_1)] → W p l e (headSpec wsX3_coinsInAll ({ frames := 3, cells := 0, slots := 0, locals := 67 } : Room)).room s m ([.ref (a 0)] : List Value).toArray below meth c H locs (0) (0) (QI below D (wl cI a G g ++ rs) r' ([.ref (a 0)] : List Value).toArray s 0 0 A) (F0 m 4 ls []) := by
    intro n
    induction n with
    | zero => intro x1_1 x2_1 z1_1 z2_1 h; exact (lp_0 h).elim
    | succ n ih =>
      intro x1_1 x2_1 z1_1 z2_1 h kk H locs ls hP hD hS hl
      obtain ⟨z, h, hz⟩ := lp_walk h
      have h : fX3_coinsInAll_B4 G x1_1 x2_1 = some z := h
      unfold fX3_coinsInAll_B4 at h
      refine lv_iload_n hx hb dX3_coinsInAll_4 rfl (lv_at hl 2 rfl) ?_
      refine lv_iconst (v := 5) hx hb dX3_coinsInAll_5 (by decide) ?_
      refine lv_icmp_ge (tgt := 26) hx hb dX3_coinsInAll_6 (by decide) (fun c_2 => ?_) (fun c_2 => ?_)
      · have h := ip_ h c_2
        cases lz_e h hz
        exact kk _ _ _ hP hD hS (lv_sub hl [0, 1, 2] rfl)
      · have h := in_ h c_2
        refine lv_iload_n hx hb dX3_coinsInAll_9 rfl (lv_at hl 1 rfl) ?_
        refine lv_aload_n hx hb dX3_coinsInAll_10 rfl (lv_at hl 0 rfl) ?_
        refine va_get (ci := 6) (v := .ref (a 3)) (C := RX3) (T := TX3) (N := 9) hx hb hts hi_X3 hown hK hP 0 rfl rfl 2 (by decide) (hts (.fieldLink RX3 28 "WishWell$Well" "layers" "LWishWell$Layers;") (List.mem_of_getElem? (i := 1) rfl)) (fun _ h9 => h9) rfl dX3_coinsInAll_11 ?_
        refine lv_iload_n hx hb dX3_coinsInAll_14 rfl (lv_at hl 2 rfl) ?_
        obtain ⟨r_3, hx_4, h⟩ := bd_I h
        refine kVi (As := [.int x2_1]) (rest := [.int x1_1]) B hK hN hP hD hS hA (c_X1_coinsIn l D cI cJ a G g x2_1 r_3 rs hx_4) (cwV 1 hts gX3_coinsInAll_X1_coinsIn rfl rfl rfl (by decide +kernel) ⟨(Nat.le_of_ble_eq_true rfl), (Nat.le_of_ble_eq_true rfl)⟩) 4 3 rfl rfl rfl hl.1 rfl (Nat.le_of_ble_eq_true rfl) dX3_coinsInAll_15 ⟨(Nat.le_of_ble_eq_true rfl), (Nat.le_of_ble_eq_true rfl)⟩ rfl (fun H locs hP hD hS => ?_)
        refine lv_iadd hx hb dX3_coinsInAll_18 ?_
        obtain ⟨y1_5, ey1_5, h⟩ := lt_I h
        rw [← ey1_5]
        refine lv_istore_n (lv' := [(1, .int y1_5), (0, .ref (a 0)), (2, .int x2_1)]) hx hb dX3_coinsInAll_19 rfl hl (by decide) rfl (fun ls hl => ?_)
        refine lv_iinc (v := x2_1 + 1) (lv' := [(2, .int (x2_1 + 1)), (1, .int y1_5), (0, .ref (a 0))]) hx hb dX3_coinsInAll_20 hl (k := 2) rfl rfl (by decide) rfl (fun ls hl => ?_)
        refine lv_goto (tgt := 4) hx hb dX3_coinsInAll_23 (by decide) ?_
        exact ih y1_5 (x2_1 + 1) _ _ (lz_c h hz) kk _ _ _ hP hD hS (lv_sub hl [2, 1, 0] rfl)
  obtain ⟨z1_1, z2_1, hl_1, h⟩ := b2_I h
  refine L4_1 6 0 0  z1_1 z2_1 hl_1 (fun H locs ls hP hD hS hl => ?_) _ _ _ hP hD hS (lv_sub hl [2, 1, 0] rfl)
  refine lv_iload_n hx hb dX3_coinsInAll_26 rfl (lv_at hl 1 rfl) ?_
  have h0 := o1 h
  exact eI hx hb hr hlk hP hS dX3_coinsInAll_27 (Nat.le_of_ble_eq_true rfl) (Nat.le_of_ble_eq_true rfl) h0 rfl
noncomputable def fX3_auditLayer_B25 (p0 : Int32) (g_5 : Nat → Int32) (x3_6 : Int32) (G_6 : Nat → Nat → Int32) : Option ((Int32 × (Nat → Nat → Int32)) ⊕ (Int32 × (Nat → Nat → Int32))) := if (g_5 5) ≤ x3_6 then (some (.inr (x3_6, G_6))) else (lt_ (fX1_at G_6 p0 x3_6) (fun y4_8 => Option.bind (fX1_add G_6 p0 x3_6 (-y4_8)) (fun G_9 => lt_ (uG G_9 4 (rAdd 6 (G_9 4) x3_6 y4_8)) (fun G_11 => some (.inl (x3_6 + 1, G_11))))))
noncomputable def fX3_auditLayer (G : Nat → Nat → Int32) (g : Nat → Int32) (p0 : Int32) : Option (Int32 × (Nat → Nat → Int32) × (Nat → Int32)) := Option.bind (fX1_coinsIn G p0) (fun r_1 => Option.bind (fX3_valueIn G g p0) (fun r_3 => lt_ (uS g 3 ((g 3) + r_3)) (fun g_5 => b2 (lp (fun s => fX3_auditLayer_B25 p0 g_5 s.1 s.2) 7 (0, G)) (fun z3_6 Gz_6 => some (r_1, Gz_6, g_5)))))
set_option maxHeartbeats 4000000 in
set_option maxRecDepth 100000 in
theorem c_X3_auditLayer (l : Launch) (D : va_G) (cI cJ : ClassId) (a : Nat → Nat) (G : Nat → Nat → Int32) (g : Nat → Int32) (p0 : Int32) (r' : Int32) (G' : Nat → Nat → Int32) (g' : Nat → Int32) (rs : va_W) (h : fX3_auditLayer G g p0 = some (r', G', g')) : Ci l yX3_auditLayer wsX3_auditLayer ({ frames := 3, cells := 0, slots := 0, locals := 67 } : Room) D cI cJ ([.ref (a 0), .int p0] : List Value) (wl cI a G g ++ rs) r' (wl cI a G' g' ++ rs) := by
  refine Ci.mk (cc := cX3_auditLayer) (maxL := 5) (ret := (some .int)) (by decide) rfl (Nat.le_of_ble_eq_true rfl) ?_
  intro p e s m below meth c A ls B hr hlk hK hN hA hP hD hl
  obtain ⟨hx, hb, hml, hown, hts⟩ := id B
  have hi_X0 : ∀ w ∈ wsX00, w ∈ wsX3_auditLayer := fun _ h => List.mem_cons_of_mem _ (List.mem_append_left _ (List.mem_append_left _ (List.mem_append_left _ (List.mem_append_right _ (h)))))
  have hi_X3 : ∀ w ∈ wsX30, w ∈ wsX3_auditLayer := fun _ h => List.mem_cons_of_mem _ (List.mem_append_left _ (List.mem_append_left _ (List.mem_append_left _ (List.mem_append_left _ (List.mem_append_right _ (h))))))
  have hS : va_S A s.heap s.heap [] := va_S.rf
  have hl : lv_has ls 5 [(0, .ref (a 0)), (1, .int p0)] := hl
  unfold fX3_auditLayer at h
  refine lv_aload_n hx hb dX3_auditLayer_0 rfl (lv_at hl 0 rfl) ?_
  refine va_get (ci := 6) (v := .ref (a 3)) (C := RX3) (T := TX3) (N := 9) hx hb hts hi_X3 hown hK hP 0 rfl rfl 2 (by decide) (hts (.fieldLink RX3 28 "WishWell$Well" "layers" "LWishWell$Layers;") (List.mem_of_getElem? (i := 1) rfl)) (fun _ h9 => h9) rfl dX3_auditLayer_1 ?_
  refine lv_iload_n hx hb dX3_auditLayer_4 rfl (lv_at hl 1 rfl) ?_
  obtain ⟨r_1, hx_2, h⟩ := bd_I h
  refine kVi (As := [.int p0]) (rest := []) B hK hN hP hD hS hA (c_X1_coinsIn l D cI cJ a G g p0 r_1 rs hx_2) (cwV 1 hts gX3_auditLayer_X1_coinsIn rfl rfl rfl (by decide +kernel) ⟨(Nat.le_of_ble_eq_true rfl), (Nat.le_of_ble_eq_true rfl)⟩) 4 3 rfl rfl rfl hl.1 rfl (Nat.le_of_ble_eq_true rfl) dX3_auditLayer_5 ⟨(Nat.le_of_ble_eq_true rfl), (Nat.le_of_ble_eq_true rfl)⟩ rfl (fun H locs hP hD hS => ?_)
  refine lv_istore_n (lv' := [(2, .int r_1), (0, .ref (a 0)), (1, .int p0)]) hx hb dX3_auditLayer_8 rfl hl (by decide) rfl (fun ls hl => ?_)
  refine lv_aload_n hx hb dX3_auditLayer_9 rfl (lv_at hl 1 rfl) ?_
  refine lv_dup hx hb dX3_auditLayer_10 rfl ?_
  refine va_get (ci := 6) (v := .int (g 3)) (C := RX3) (T := TX3) (N := 9) hx hb hts hi_X3 hown hK hP 0 rfl rfl 7 (by decide) (hts (.fieldLink RX3 103 "WishWell$Well" "purse" "I") (List.mem_of_getElem? (i := 2) rfl)) (fun _ h9 => h9) rfl dX3_auditLayer_11 ?_
  refine lv_aload_n hx hb dX3_auditLayer_14 rfl (lv_at hl 1 rfl) ?_
  refine lv_iload_n hx hb dX3_auditLayer_15 rfl (lv_at hl 2 rfl) ?_
  obtain ⟨r_3, hx_4, h⟩ := bd_I h
  refine kVi (As := [.int p0]) (rest := [.int (g 3), .ref (a 0)]) B hK hN hP hD hS hA (c_X3_valueIn l D cI cJ a G g p0 r_3 rs hx_4) (cwV 1 hts gX3_auditLayer_X3_valueIn rfl rfl rfl (by decide +kernel) ⟨(Nat.le_of_ble_eq_true rfl), (Nat.le_of_ble_eq_true rfl)⟩) 6 0 rfl rfl rfl hl.1 rfl (Nat.le_of_ble_eq_true rfl) dX3_auditLayer_16 ⟨(Nat.le_of_ble_eq_true rfl), (Nat.le_of_ble_eq_true rfl)⟩ rfl (fun H locs hP hD hS => ?_)
  refine lv_iadd hx hb dX3_auditLayer_19 ?_
  refine va_put (D := D) (ci := 6) (v := .int ((g 3) + r_3)) (ty := .int) (C := RX3) (T := TX3) (N := 9) hx hb hts hi_X3 tyX3 tyX3_ok nmX3 hown hK hP hD hS 0 rfl rfl 7 (by decide) (hts (.fieldLink RX3 103 "WishWell$Well" "purse" "I") (List.mem_of_getElem? (i := 2) rfl)) (fun _ h9 => h9) rfl (by decide +kernel) rfl rfl (Nat.le_of_ble_eq_true rfl) dX3_auditLayer_20 (fun H locs hP hD hS => ?_)
  obtain ⟨g_5, eg_5, h⟩ := lt_I h
  have hP : va_P D vwCl (wl cI a G g_5 ++ rs) H := by rw [eg_5]; exact hP
  have hD : va_D A (wl cI a G g_5 ++ rs) := by rw [eg_5]; exact hD
  refine lv_iconst (v := 0) hx hb dX3_auditLayer_23 (by decide) ?_
  refine lv_istore_n (lv' := [(3, .int 0), (2, .int r_1), (0, .ref (a 0)), (1, .int p0)]) hx hb dX3_auditLayer_24 rfl hl (by decide) rfl (fun ls hl => ?_)
  have L25_6 : ∀ (n : Nat) (x3_6 : Int32) (G_6 : Nat → Nat → Int32) (z3_6 : Int32) (Gz_6 : Nat → Nat → Int32) (_ : lp (fun s => fX3_auditLayer_B25 p0 g_5 s.1 s.2) n (x3_6, G_6) = some (z3_6, Gz_6)) (_ : ∀ (H : Heap) (locs : List Loc) (ls : Array Slot), va_P D vwCl (wl cI a Gz_6 g_5 ++ rs) H → va_D A (wl cI a Gz_6 g_5 ++ rs) → va_S A s.heap H locs → lv_has ls 5 [(0, .ref (a 0)), (1, .int p0), (2, .int r_1), (3, .int z3_6)] → W p l e (headSpec wsX3_auditLayer ({ frames := 3, cells := 0, slots := 0, locals := 67 } : Room)).room s m ([.ref (a 0), .int p0] : List Value).toArray below meth c H locs (0) (0) (QI below D (wl cI a G' g' ++ rs) r' ([.ref (a 0), .int p0] : List Value).toArray s 0 0 A) (F0 m 78 ls [])) (H : Heap) (locs : List Loc) (ls : Array Slot), va_P D vwCl (wl cI a G_6 g_5 ++ rs) H → va_D A (wl cI a G_6 g_5 ++ rs) → va_S A s.heap H locs → lv_has ls 5 [(0, .ref (a 0)), (1, .int p0), (2, .int r_1), (3, .int x3_6)] → W p l e (headSpec wsX3_auditLayer ({ frames := 3, cells := 0, slots := 0, locals := 67 } : Room)).room s m ([.ref (a 0), .int p0] : List Value).toArray below meth c H locs (0) (0) (QI below D (wl cI a G' g' ++ rs) r' ([.ref (a 0), .int p0] : List Value).toArray s 0 0 A) (F0 m 25 ls []) := by
    intro n
    induction n with
    | zero => intro x3_6 G_6 z3_6 Gz_6 h; exact (lp_0 h).elim
    | succ n ih =>
      intro x3_6 G_6 z3_6 Gz_6 h kk H locs ls hP hD hS hl
      obtain ⟨z, h, hz⟩ := lp_walk h
      have h : fX3_auditLayer_B25 p0 g_5 x3_6 G_6 = some z := h
      unfold fX3_auditLayer_B25 at h
      refine lv_iload_n hx hb dX3_auditLayer_25 rfl (lv_at hl 3 rfl) ?_
      refine lv_aload_n hx hb dX3_auditLayer_26 rfl (lv_at hl 0 rfl) ?_
      refine va_get (ci := 6) (v := .ref (a 1)) (C := RX3) (T := TX3) (N := 9) hx hb hts hi_X3 hown hK hP 0 rfl rfl 0 (by decide) (hts (.fieldLink RX3 12 "WishWell$Well" "lands" "LWishWell$Lands;") (List.mem_of_getElem? (i := 3) rfl)) (fun _ h9 => h9) rfl dX3_auditLayer_27 ?_
      refine va_get (ci := 3) (v := .int (g_5 5)) (C := RX0) (T := TX0) (N := 6) hx hb hts hi_X0 hown hK hP 1 rfl rfl 5 (by decide) (hts (.fieldLink RX3 95 "WishWell$Lands" "size" "I") (List.mem_of_getElem? (i := 4) rfl)) (fun _ h9 => h9) rfl dX3_auditLayer_30 ?_
      refine lv_icmp_ge (tgt := 78) hx hb dX3_auditLayer_33 (by decide) (fun c_7 => ?_) (fun c_7 => ?_)
      · have h := ip_ h c_7
        cases lz_e h hz
        exact kk _ _ _ hP hD hS (lv_sub hl [0, 1, 2, 3] rfl)
      · have h := in_ h c_7
        refine lv_aload_n hx hb dX3_auditLayer_36 rfl (lv_at hl 0 rfl) ?_
        refine va_get (ci := 6) (v := .ref (a 3)) (C := RX3) (T := TX3) (N := 9) hx hb hts hi_X3 hown hK hP 0 rfl rfl 2 (by decide) (hts (.fieldLink RX3 28 "WishWell$Well" "layers" "LWishWell$Layers;") (List.mem_of_getElem? (i := 1) rfl)) (fun _ h9 => h9) rfl dX3_auditLayer_37 ?_
        refine lv_iload_n hx hb dX3_auditLayer_40 rfl (lv_at hl 1 rfl) ?_
        refine lv_iload_n hx hb dX3_auditLayer_41 rfl (lv_at hl 3 rfl) ?_
        refine kVi (As := [.int p0, .int x3_6]) (rest := []) B hK hN hP hD hS hA (c_X1_at l D cI cJ a G_6 g_5 p0 x3_6 rs _ rfl) (cwV 2 hts gX3_auditLayer_X1_at rfl rfl rfl (by decide +kernel) ⟨(Nat.le_of_ble_eq_true rfl), (Nat.le_of_ble_eq_true rfl)⟩) 4 3 rfl rfl rfl hl.1 rfl (Nat.le_of_ble_eq_true rfl) dX3_auditLayer_42 ⟨(Nat.le_of_ble_eq_true rfl), (Nat.le_of_ble_eq_true rfl)⟩ rfl (fun H locs hP hD hS => ?_)
        obtain ⟨y4_8, ey4_8, h⟩ := lt_I h
        rw [← ey4_8]
        refine lv_istore (lv' := [(4, .int y4_8), (0, .ref (a 0)), (1, .int p0), (2, .int r_1), (3, .int x3_6)]) hx hb dX3_auditLayer_45 hl (by decide) rfl (fun ls hl => ?_)
        refine lv_aload_n hx hb dX3_auditLayer_47 rfl (lv_at hl 1 rfl) ?_
        refine va_get (ci := 6) (v := .ref (a 3)) (C := RX3) (T := TX3) (N := 9) hx hb hts hi_X3 hown hK hP 0 rfl rfl 2 (by decide) (hts (.fieldLink RX3 28 "WishWell$Well" "layers" "LWishWell$Layers;") (List.mem_of_getElem? (i := 1) rfl)) (fun _ h9 => h9) rfl dX3_auditLayer_48 ?_
        refine lv_iload_n hx hb dX3_auditLayer_51 rfl (lv_at hl 2 rfl) ?_
        refine lv_iload_n hx hb dX3_auditLayer_52 rfl (lv_at hl 4 rfl) ?_
        refine lv_iload hx hb dX3_auditLayer_53 (lv_at hl 0 rfl) ?_
        refine lv_ineg hx hb dX3_auditLayer_55 ?_
        obtain ⟨G_9, hx_10, h⟩ := bd_I h
        refine kVv (As := [.int p0, .int x3_6, .int (-y4_8)]) (rest := []) B hK hN hP hD hS hA (c_X1_add l D cI cJ a G_6 g_5 p0 x3_6 (-y4_8) G_9 rs hx_10) (cwV 3 hts gX3_auditLayer_X1_add rfl rfl rfl (by decide +kernel) ⟨(Nat.le_of_ble_eq_true rfl), (Nat.le_of_ble_eq_true rfl)⟩) 4 3 rfl rfl rfl hl.1 rfl (Nat.le_of_ble_eq_true rfl) dX3_auditLayer_56 ⟨(Nat.le_of_ble_eq_true rfl), (Nat.le_of_ble_eq_true rfl)⟩ rfl (fun H locs hP hD hS => ?_)
        refine lv_aload_n hx hb dX3_auditLayer_59 rfl (lv_at hl 1 rfl) ?_
        refine va_get (ci := 6) (v := .ref (a 1)) (C := RX3) (T := TX3) (N := 9) hx hb hts hi_X3 hown hK hP 0 rfl rfl 0 (by decide) (hts (.fieldLink RX3 12 "WishWell$Well" "lands" "LWishWell$Lands;") (List.mem_of_getElem? (i := 3) rfl)) (fun _ h9 => h9) rfl dX3_auditLayer_60 ?_
        refine va_get (ci := 3) (v := .ref (a 8)) (C := RX0) (T := TX0) (N := 6) hx hb hts hi_X0 hown hK hP 1 rfl rfl 3 (by decide) (hts (.fieldLink RX3 109 "WishWell$Lands" "audited" "LWishWell$Row;") (List.mem_of_getElem? (i := 5) rfl)) (fun _ h9 => h9) rfl dX3_auditLayer_63 ?_
        refine lv_iload_n hx hb dX3_auditLayer_66 rfl (lv_at hl 4 rfl) ?_
        refine lv_iload hx hb dX3_auditLayer_67 (lv_at hl 0 rfl) ?_
        refine kVv (As := [.int x3_6, .int y4_8]) (rest := []) B hK hN hP hD hS hA (c_X2_add l D cI cJ _ (wl cI a (uG G_9 4 (rAdd 6 (G_9 4) x3_6 y4_8)) g_5 ++ rs) _ _ 6 (G_9 4) 8 20 rfl rfl (by decide) x3_6 y4_8 rfl rfl) (cwV 2 hts gX3_auditLayer_X2_add rfl rfl rfl (by decide +kernel) ⟨(Nat.le_of_ble_eq_true rfl), (Nat.le_of_ble_eq_true rfl)⟩) 5 8 rfl rfl rfl hl.1 rfl (Nat.le_of_ble_eq_true rfl) dX3_auditLayer_69 ⟨(Nat.le_of_ble_eq_true rfl), (Nat.le_of_ble_eq_true rfl)⟩ rfl (fun H locs hP hD hS => ?_)
        obtain ⟨G_11, eG_11, h⟩ := lt_I h
        have hP : va_P D vwCl (wl cI a G_11 g_5 ++ rs) H := by rw [eG_11]; exact hP
        have hD : va_D A (wl cI a G_11 g_5 ++ rs) := by rw [eG_11]; exact hD
        refine lv_iinc (v := x3_6 + 1) (lv' := [(3, .int (x3_6 + 1)), (4, .int y4_8), (0, .ref (a 0)), (1, .int p0), (2, .int r_1)]) hx hb dX3_auditLayer_72 hl (k := 4) rfl rfl (by decide) rfl (fun ls hl => ?_)
        refine lv_goto (tgt := 25) hx hb dX3_auditLayer_75 (by decide) ?_
        exact ih (x3_6 + 1) G_11 _ _ (lz_c h hz) kk _ _ _ hP hD hS (lv_sub hl [2, 3, 4, 0] rfl)
  obtain ⟨z3_6, Gz_6, hl_6, h⟩ := b2_I h
  refine L25_6 7 0 G z3_6 Gz_6 hl_6 (fun H locs ls hP hD hS hl => ?_) _ _ _ hP hD hS (lv_sub hl [2, 3, 1, 0] rfl)
  refine lv_iload_n hx hb dX3_auditLayer_78 rfl (lv_at hl 2 rfl) ?_
  obtain ⟨h0, h1, h2⟩ := o3 h
  exact eI hx hb hr hlk hP hS dX3_auditLayer_79 (Nat.le_of_ble_eq_true rfl) (Nat.le_of_ble_eq_true rfl) h0 (by rw [h1, h2])
noncomputable def fX3_missingCoins (G : Nat → Nat → Int32) (p0 : Int32) : Option (Int32) := Option.bind (fX1_coinsOf G p0) (fun r_1 => some ((((rAt 6 (G 3) p0) - r_1) - (rAt 6 (G 4) p0)) - (rAt 6 (G 5) p0)))
set_option maxHeartbeats 4000000 in
set_option maxRecDepth 100000 in
theorem c_X3_missingCoins (l : Launch) (D : va_G) (cI cJ : ClassId) (a : Nat → Nat) (G : Nat → Nat → Int32) (g : Nat → Int32) (p0 : Int32) (r' : Int32) (rs : va_W) (h : fX3_missingCoins G p0 = some r') : Ci l yX3_missingCoins wsX3_missingCoins ({ frames := 3, cells := 0, slots := 0, locals := 67 } : Room) D cI cJ ([.ref (a 0), .int p0] : List Value) (wl cI a G g ++ rs) r' (wl cI a G g ++ rs) := by
  refine Ci.mk (cc := cX3_missingCoins) (maxL := 2) (ret := (some .int)) (by decide) rfl (Nat.le_of_ble_eq_true rfl) ?_
  intro p e s m below meth c A ls B hr hlk hK hN hA hP hD hl
  obtain ⟨hx, hb, hml, hown, hts⟩ := id B
  have hi_X0 : ∀ w ∈ wsX00, w ∈ wsX3_missingCoins := fun _ h => List.mem_cons_of_mem _ (List.mem_append_left _ (List.mem_append_left _ (List.mem_append_left _ (List.mem_append_right _ (h)))))
  have hi_X3 : ∀ w ∈ wsX30, w ∈ wsX3_missingCoins := fun _ h => List.mem_cons_of_mem _ (List.mem_append_left _ (List.mem_append_left _ (List.mem_append_left _ (List.mem_append_left _ (List.mem_append_right _ (h))))))
  have hS : va_S A s.heap s.heap [] := va_S.rf
  have hl : lv_has ls 2 [(0, .ref (a 0)), (1, .int p0)] := hl
  unfold fX3_missingCoins at h
  refine lv_aload_n hx hb dX3_missingCoins_0 rfl (lv_at hl 0 rfl) ?_
  refine va_get (ci := 6) (v := .ref (a 1)) (C := RX3) (T := TX3) (N := 9) hx hb hts hi_X3 hown hK hP 0 rfl rfl 0 (by decide) (hts (.fieldLink RX3 12 "WishWell$Well" "lands" "LWishWell$Lands;") (List.mem_of_getElem? (i := 1) rfl)) (fun _ h9 => h9) rfl dX3_missingCoins_1 ?_
  refine va_get (ci := 3) (v := .ref (a 7)) (C := RX0) (T := TX0) (N := 6) hx hb hts hi_X0 hown hK hP 1 rfl rfl 2 (by decide) (hts (.fieldLink RX3 49 "WishWell$Lands" "thrown" "LWishWell$Row;") (List.mem_of_getElem? (i := 2) rfl)) (fun _ h9 => h9) rfl dX3_missingCoins_4 ?_
  refine lv_iload_n hx hb dX3_missingCoins_7 rfl (lv_at hl 1 rfl) ?_
  refine kVi (As := [.int p0]) (rest := []) B hK hN hP hD hS hA (c_X2_at l D cI cJ _ _ _ 6 (G 3) 7 19 rfl rfl (by decide) p0) (cwV 1 hts gX3_missingCoins_X2_at rfl rfl rfl (by decide +kernel) ⟨(Nat.le_of_ble_eq_true rfl), (Nat.le_of_ble_eq_true rfl)⟩) 5 7 rfl rfl rfl hl.1 rfl (Nat.le_of_ble_eq_true rfl) dX3_missingCoins_8 ⟨(Nat.le_of_ble_eq_true rfl), (Nat.le_of_ble_eq_true rfl)⟩ rfl (fun H locs hP hD hS => ?_)
  refine lv_aload_n hx hb dX3_missingCoins_11 rfl (lv_at hl 0 rfl) ?_
  refine va_get (ci := 6) (v := .ref (a 3)) (C := RX3) (T := TX3) (N := 9) hx hb hts hi_X3 hown hK hP 0 rfl rfl 2 (by decide) (hts (.fieldLink RX3 28 "WishWell$Well" "layers" "LWishWell$Layers;") (List.mem_of_getElem? (i := 3) rfl)) (fun _ h9 => h9) rfl dX3_missingCoins_12 ?_
  refine lv_iload_n hx hb dX3_missingCoins_15 rfl (lv_at hl 1 rfl) ?_
  obtain ⟨r_1, hx_2, h⟩ := bd_I h
  refine kVi (As := [.int p0]) (rest := [.int (rAt 6 (G 3) p0)]) B hK hN hP hD hS hA (c_X1_coinsOf l D cI cJ a G g p0 r_1 rs hx_2) (cwV 1 hts gX3_missingCoins_X1_coinsOf rfl rfl rfl (by decide +kernel) ⟨(Nat.le_of_ble_eq_true rfl), (Nat.le_of_ble_eq_true rfl)⟩) 4 3 rfl rfl rfl hl.1 rfl (Nat.le_of_ble_eq_true rfl) dX3_missingCoins_16 ⟨(Nat.le_of_ble_eq_true rfl), (Nat.le_of_ble_eq_true rfl)⟩ rfl (fun H locs hP hD hS => ?_)
  refine lv_isub hx hb dX3_missingCoins_19 ?_
  refine lv_aload_n hx hb dX3_missingCoins_20 rfl (lv_at hl 0 rfl) ?_
  refine va_get (ci := 6) (v := .ref (a 1)) (C := RX3) (T := TX3) (N := 9) hx hb hts hi_X3 hown hK hP 0 rfl rfl 0 (by decide) (hts (.fieldLink RX3 12 "WishWell$Well" "lands" "LWishWell$Lands;") (List.mem_of_getElem? (i := 1) rfl)) (fun _ h9 => h9) rfl dX3_missingCoins_21 ?_
  refine va_get (ci := 3) (v := .ref (a 8)) (C := RX0) (T := TX0) (N := 6) hx hb hts hi_X0 hown hK hP 1 rfl rfl 3 (by decide) (hts (.fieldLink RX3 109 "WishWell$Lands" "audited" "LWishWell$Row;") (List.mem_of_getElem? (i := 4) rfl)) (fun _ h9 => h9) rfl dX3_missingCoins_24 ?_
  refine lv_iload_n hx hb dX3_missingCoins_27 rfl (lv_at hl 1 rfl) ?_
  refine kVi (As := [.int p0]) (rest := [.int ((rAt 6 (G 3) p0) - r_1)]) B hK hN hP hD hS hA (c_X2_at l D cI cJ _ _ _ 6 (G 4) 8 20 rfl rfl (by decide) p0) (cwV 1 hts gX3_missingCoins_X2_at rfl rfl rfl (by decide +kernel) ⟨(Nat.le_of_ble_eq_true rfl), (Nat.le_of_ble_eq_true rfl)⟩) 5 8 rfl rfl rfl hl.1 rfl (Nat.le_of_ble_eq_true rfl) dX3_missingCoins_28 ⟨(Nat.le_of_ble_eq_true rfl), (Nat.le_of_ble_eq_true rfl)⟩ rfl (fun H locs hP hD hS => ?_)
  refine lv_isub hx hb dX3_missingCoins_31 ?_
  refine lv_aload_n hx hb dX3_missingCoins_32 rfl (lv_at hl 0 rfl) ?_
  refine va_get (ci := 6) (v := .ref (a 1)) (C := RX3) (T := TX3) (N := 9) hx hb hts hi_X3 hown hK hP 0 rfl rfl 0 (by decide) (hts (.fieldLink RX3 12 "WishWell$Well" "lands" "LWishWell$Lands;") (List.mem_of_getElem? (i := 1) rfl)) (fun _ h9 => h9) rfl dX3_missingCoins_33 ?_
  refine va_get (ci := 3) (v := .ref (a 9)) (C := RX0) (T := TX0) (N := 6) hx hb hts hi_X0 hown hK hP 1 rfl rfl 4 (by decide) (hts (.fieldLink RX3 77 "WishWell$Lands" "takenBack" "LWishWell$Row;") (List.mem_of_getElem? (i := 5) rfl)) (fun _ h9 => h9) rfl dX3_missingCoins_36 ?_
  refine lv_iload_n hx hb dX3_missingCoins_39 rfl (lv_at hl 1 rfl) ?_
  refine kVi (As := [.int p0]) (rest := [.int (((rAt 6 (G 3) p0) - r_1) - (rAt 6 (G 4) p0))]) B hK hN hP hD hS hA (c_X2_at l D cI cJ _ _ _ 6 (G 5) 9 21 rfl rfl (by decide) p0) (cwV 1 hts gX3_missingCoins_X2_at rfl rfl rfl (by decide +kernel) ⟨(Nat.le_of_ble_eq_true rfl), (Nat.le_of_ble_eq_true rfl)⟩) 5 9 rfl rfl rfl hl.1 rfl (Nat.le_of_ble_eq_true rfl) dX3_missingCoins_40 ⟨(Nat.le_of_ble_eq_true rfl), (Nat.le_of_ble_eq_true rfl)⟩ rfl (fun H locs hP hD hS => ?_)
  refine lv_isub hx hb dX3_missingCoins_43 ?_
  have h0 := o1 h
  exact eI hx hb hr hlk hP hS dX3_missingCoins_44 (Nat.le_of_ble_eq_true rfl) (Nat.le_of_ble_eq_true rfl) h0 rfl
noncomputable def fX3_landFigure (G : Nat → Nat → Int32) (p0 : Int32) (p1 : Int32) : Option (Int32) := if p1 = 0 then (some (rAt 6 (G 1) p0)) else (if p1 = 1 then (some (rAt 6 (G 2) p0)) else (if p1 = 2 then (some (rAt 6 (G 3) p0)) else (if p1 = 3 then (Option.bind (fX1_coinsOf G p0) (fun r_5 => some r_5)) else (some (rAt 6 (G 4) p0)))))
set_option maxHeartbeats 4000000 in
set_option maxRecDepth 100000 in
theorem c_X3_landFigure (l : Launch) (D : va_G) (cI cJ : ClassId) (a : Nat → Nat) (G : Nat → Nat → Int32) (g : Nat → Int32) (p0 : Int32) (p1 : Int32) (r' : Int32) (rs : va_W) (h : fX3_landFigure G p0 p1 = some r') : Ci l yX3_landFigure wsX3_landFigure ({ frames := 3, cells := 0, slots := 0, locals := 67 } : Room) D cI cJ ([.ref (a 0), .int p0, .int p1] : List Value) (wl cI a G g ++ rs) r' (wl cI a G g ++ rs) := by
  refine Ci.mk (cc := cX3_landFigure) (maxL := 3) (ret := (some .int)) (by decide) rfl (Nat.le_of_ble_eq_true rfl) ?_
  intro p e s m below meth c A ls B hr hlk hK hN hA hP hD hl
  obtain ⟨hx, hb, hml, hown, hts⟩ := id B
  have hi_X0 : ∀ w ∈ wsX00, w ∈ wsX3_landFigure := fun _ h => List.mem_cons_of_mem _ (List.mem_append_left _ (List.mem_append_left _ (List.mem_append_left _ (List.mem_append_right _ (h)))))
  have hi_X3 : ∀ w ∈ wsX30, w ∈ wsX3_landFigure := fun _ h => List.mem_cons_of_mem _ (List.mem_append_left _ (List.mem_append_left _ (List.mem_append_left _ (List.mem_append_left _ (List.mem_append_right _ (h))))))
  have hS : va_S A s.heap s.heap [] := va_S.rf
  have hl : lv_has ls 3 [(0, .ref (a 0)), (1, .int p0), (2, .int p1)] := hl
  unfold fX3_landFigure at h
  refine lv_iload_n hx hb dX3_landFigure_0 rfl (lv_at hl 2 rfl) ?_
  by_cases c_1 : p1 = 0
  · have h := ip_ h c_1
    refine lv_tableIn (off := 31) (tgt := 32) hx hb dX3_landFigure_1 (by rw [c_1]; decide) (by rw [c_1]; decide) (by rw [c_1]; rfl) (by decide) ?_
    refine lv_aload_n hx hb dX3_landFigure_32 rfl (lv_at hl 0 rfl) ?_
    refine va_get (ci := 6) (v := .ref (a 1)) (C := RX3) (T := TX3) (N := 9) hx hb hts hi_X3 hown hK hP 0 rfl rfl 0 (by decide) (hts (.fieldLink RX3 12 "WishWell$Well" "lands" "LWishWell$Lands;") (List.mem_of_getElem? (i := 1) rfl)) (fun _ h9 => h9) rfl dX3_landFigure_33 ?_
    refine va_get (ci := 3) (v := .ref (a 5)) (C := RX0) (T := TX0) (N := 6) hx hb hts hi_X0 hown hK hP 1 rfl rfl 0 (by decide) (hts (.fieldLink RX3 55 "WishWell$Lands" "values" "LWishWell$Row;") (List.mem_of_getElem? (i := 2) rfl)) (fun _ h9 => h9) rfl dX3_landFigure_36 ?_
    refine lv_iload_n hx hb dX3_landFigure_39 rfl (lv_at hl 1 rfl) ?_
    refine kVi (As := [.int p0]) (rest := []) B hK hN hP hD hS hA (c_X2_at l D cI cJ _ _ _ 6 (G 1) 5 17 rfl rfl (by decide) p0) (cwV 1 hts gX3_landFigure_X2_at rfl rfl rfl (by decide +kernel) ⟨(Nat.le_of_ble_eq_true rfl), (Nat.le_of_ble_eq_true rfl)⟩) 5 5 rfl rfl rfl hl.1 rfl (Nat.le_of_ble_eq_true rfl) dX3_landFigure_40 ⟨(Nat.le_of_ble_eq_true rfl), (Nat.le_of_ble_eq_true rfl)⟩ rfl (fun H locs hP hD hS => ?_)
    have h0 := o1 h
    exact eI hx hb hr hlk hP hS dX3_landFigure_43 (Nat.le_of_ble_eq_true rfl) (Nat.le_of_ble_eq_true rfl) h0 rfl
  have h := in_ h c_1
  have tc_1 := sw_n 0 0 (by decide) c_1
  by_cases c_2 : p1 = 1
  · have h := ip_ h c_2
    refine lv_tableIn (off := 43) (tgt := 44) hx hb dX3_landFigure_1 (by rw [c_2]; decide) (by rw [c_2]; decide) (by rw [c_2]; rfl) (by decide) ?_
    refine lv_aload_n hx hb dX3_landFigure_44 rfl (lv_at hl 0 rfl) ?_
    refine va_get (ci := 6) (v := .ref (a 1)) (C := RX3) (T := TX3) (N := 9) hx hb hts hi_X3 hown hK hP 0 rfl rfl 0 (by decide) (hts (.fieldLink RX3 12 "WishWell$Well" "lands" "LWishWell$Lands;") (List.mem_of_getElem? (i := 1) rfl)) (fun _ h9 => h9) rfl dX3_landFigure_45 ?_
    refine va_get (ci := 3) (v := .ref (a 6)) (C := RX0) (T := TX0) (N := 6) hx hb hts hi_X0 hown hK hP 1 rfl rfl 1 (by decide) (hts (.fieldLink RX3 115 "WishWell$Lands" "weights" "LWishWell$Row;") (List.mem_of_getElem? (i := 3) rfl)) (fun _ h9 => h9) rfl dX3_landFigure_48 ?_
    refine lv_iload_n hx hb dX3_landFigure_51 rfl (lv_at hl 1 rfl) ?_
    refine kVi (As := [.int p0]) (rest := []) B hK hN hP hD hS hA (c_X2_at l D cI cJ _ _ _ 6 (G 2) 6 18 rfl rfl (by decide) p0) (cwV 1 hts gX3_landFigure_X2_at rfl rfl rfl (by decide +kernel) ⟨(Nat.le_of_ble_eq_true rfl), (Nat.le_of_ble_eq_true rfl)⟩) 5 6 rfl rfl rfl hl.1 rfl (Nat.le_of_ble_eq_true rfl) dX3_landFigure_52 ⟨(Nat.le_of_ble_eq_true rfl), (Nat.le_of_ble_eq_true rfl)⟩ rfl (fun H locs hP hD hS => ?_)
    have h0 := o1 h
    exact eI hx hb hr hlk hP hS dX3_landFigure_55 (Nat.le_of_ble_eq_true rfl) (Nat.le_of_ble_eq_true rfl) h0 rfl
  have h := in_ h c_2
  have tc_2 := sw_n 1 1 (by decide) c_2
  by_cases c_3 : p1 = 2
  · have h := ip_ h c_3
    refine lv_tableIn (off := 55) (tgt := 56) hx hb dX3_landFigure_1 (by rw [c_3]; decide) (by rw [c_3]; decide) (by rw [c_3]; rfl) (by decide) ?_
    refine lv_aload_n hx hb dX3_landFigure_56 rfl (lv_at hl 0 rfl) ?_
    refine va_get (ci := 6) (v := .ref (a 1)) (C := RX3) (T := TX3) (N := 9) hx hb hts hi_X3 hown hK hP 0 rfl rfl 0 (by decide) (hts (.fieldLink RX3 12 "WishWell$Well" "lands" "LWishWell$Lands;") (List.mem_of_getElem? (i := 1) rfl)) (fun _ h9 => h9) rfl dX3_landFigure_57 ?_
    refine va_get (ci := 3) (v := .ref (a 7)) (C := RX0) (T := TX0) (N := 6) hx hb hts hi_X0 hown hK hP 1 rfl rfl 2 (by decide) (hts (.fieldLink RX3 49 "WishWell$Lands" "thrown" "LWishWell$Row;") (List.mem_of_getElem? (i := 4) rfl)) (fun _ h9 => h9) rfl dX3_landFigure_60 ?_
    refine lv_iload_n hx hb dX3_landFigure_63 rfl (lv_at hl 1 rfl) ?_
    refine kVi (As := [.int p0]) (rest := []) B hK hN hP hD hS hA (c_X2_at l D cI cJ _ _ _ 6 (G 3) 7 19 rfl rfl (by decide) p0) (cwV 1 hts gX3_landFigure_X2_at rfl rfl rfl (by decide +kernel) ⟨(Nat.le_of_ble_eq_true rfl), (Nat.le_of_ble_eq_true rfl)⟩) 5 7 rfl rfl rfl hl.1 rfl (Nat.le_of_ble_eq_true rfl) dX3_landFigure_64 ⟨(Nat.le_of_ble_eq_true rfl), (Nat.le_of_ble_eq_true rfl)⟩ rfl (fun H locs hP hD hS => ?_)
    have h0 := o1 h
    exact eI hx hb hr hlk hP hS dX3_landFigure_67 (Nat.le_of_ble_eq_true rfl) (Nat.le_of_ble_eq_true rfl) h0 rfl
  have h := in_ h c_3
  have tc_3 := sw_n 2 2 (by decide) c_3
  by_cases c_4 : p1 = 3
  · have h := ip_ h c_4
    refine lv_tableIn (off := 67) (tgt := 68) hx hb dX3_landFigure_1 (by rw [c_4]; decide) (by rw [c_4]; decide) (by rw [c_4]; rfl) (by decide) ?_
    refine lv_aload_n hx hb dX3_landFigure_68 rfl (lv_at hl 0 rfl) ?_
    refine va_get (ci := 6) (v := .ref (a 3)) (C := RX3) (T := TX3) (N := 9) hx hb hts hi_X3 hown hK hP 0 rfl rfl 2 (by decide) (hts (.fieldLink RX3 28 "WishWell$Well" "layers" "LWishWell$Layers;") (List.mem_of_getElem? (i := 5) rfl)) (fun _ h9 => h9) rfl dX3_landFigure_69 ?_
    refine lv_iload_n hx hb dX3_landFigure_72 rfl (lv_at hl 1 rfl) ?_
    obtain ⟨r_5, hx_6, h⟩ := bd_I h
    refine kVi (As := [.int p0]) (rest := []) B hK hN hP hD hS hA (c_X1_coinsOf l D cI cJ a G g p0 r_5 rs hx_6) (cwV 1 hts gX3_landFigure_X1_coinsOf rfl rfl rfl (by decide +kernel) ⟨(Nat.le_of_ble_eq_true rfl), (Nat.le_of_ble_eq_true rfl)⟩) 4 3 rfl rfl rfl hl.1 rfl (Nat.le_of_ble_eq_true rfl) dX3_landFigure_73 ⟨(Nat.le_of_ble_eq_true rfl), (Nat.le_of_ble_eq_true rfl)⟩ rfl (fun H locs hP hD hS => ?_)
    have h0 := o1 h
    exact eI hx hb hr hlk hP hS dX3_landFigure_76 (Nat.le_of_ble_eq_true rfl) (Nat.le_of_ble_eq_true rfl) h0 rfl
  have h := in_ h c_4
  have tc_4 := sw_n 3 3 (by decide) c_4
  refine lv_tableOut (tgt := 77) hx hb dX3_landFigure_1 (by omega) (by decide) ?_
  refine lv_aload_n hx hb dX3_landFigure_77 rfl (lv_at hl 0 rfl) ?_
  refine va_get (ci := 6) (v := .ref (a 1)) (C := RX3) (T := TX3) (N := 9) hx hb hts hi_X3 hown hK hP 0 rfl rfl 0 (by decide) (hts (.fieldLink RX3 12 "WishWell$Well" "lands" "LWishWell$Lands;") (List.mem_of_getElem? (i := 1) rfl)) (fun _ h9 => h9) rfl dX3_landFigure_78 ?_
  refine va_get (ci := 3) (v := .ref (a 8)) (C := RX0) (T := TX0) (N := 6) hx hb hts hi_X0 hown hK hP 1 rfl rfl 3 (by decide) (hts (.fieldLink RX3 109 "WishWell$Lands" "audited" "LWishWell$Row;") (List.mem_of_getElem? (i := 6) rfl)) (fun _ h9 => h9) rfl dX3_landFigure_81 ?_
  refine lv_iload_n hx hb dX3_landFigure_84 rfl (lv_at hl 1 rfl) ?_
  refine kVi (As := [.int p0]) (rest := []) B hK hN hP hD hS hA (c_X2_at l D cI cJ _ _ _ 6 (G 4) 8 20 rfl rfl (by decide) p0) (cwV 1 hts gX3_landFigure_X2_at rfl rfl rfl (by decide +kernel) ⟨(Nat.le_of_ble_eq_true rfl), (Nat.le_of_ble_eq_true rfl)⟩) 5 8 rfl rfl rfl hl.1 rfl (Nat.le_of_ble_eq_true rfl) dX3_landFigure_85 ⟨(Nat.le_of_ble_eq_true rfl), (Nat.le_of_ble_eq_true rfl)⟩ rfl (fun H locs hP hD hS => ?_)
  have h0 := o1 h
  exact eI hx hb hr hlk hP hS dX3_landFigure_88 (Nat.le_of_ble_eq_true rfl) (Nat.le_of_ble_eq_true rfl) h0 rfl
noncomputable def fX3_figure (G : Nat → Nat → Int32) (g : Nat → Int32) (p0 : Int32) : Option (Int32) := if p0 = 0 then (some (g 0)) else (if p0 = 1 then (some (g 5)) else (if p0 = 2 then (some (g 6)) else (if p0 = 3 then (Option.bind (fX4_howMany G g 0) (fun r_5 => some r_5)) else (if p0 = 4 then (Option.bind (fX4_howMany G g 1) (fun r_8 => some r_8)) else (if p0 = 5 then (some (g 1)) else (if p0 = 6 then (some (g 2)) else (if p0 = 7 then (Option.bind (fX3_coinsInAll G) (fun r_13 => some r_13)) else (if p0 = 8 then (Option.bind (fX3_valueOfAll G g) (fun r_16 => some r_16)) else (if p0 = 9 then (some (g 3)) else (some (g 4)))))))))))
set_option maxHeartbeats 4000000 in
set_option maxRecDepth 100000 in
theorem c_X3_figure (l : Launch) (D : va_G) (cI cJ : ClassId) (a : Nat → Nat) (G : Nat → Nat → Int32) (g : Nat → Int32) (p0 : Int32) (r' : Int32) (rs : va_W) (h : fX3_figure G g p0 = some r') : Ci l yX3_figure wsX3_figure ({ frames := 4, cells := 0, slots := 0, locals := 89 } : Room) D cI cJ ([.ref (a 0), .int p0] : List Value) (wl cI a G g ++ rs) r' (wl cI a G g ++ rs) := by
  refine Ci.mk (cc := cX3_figure) (maxL := 2) (ret := (some .int)) (by decide) rfl (Nat.le_of_ble_eq_true rfl) ?_
  intro p e s m below meth c A ls B hr hlk hK hN hA hP hD hl
  obtain ⟨hx, hb, hml, hown, hts⟩ := id B
  have hi_X0 : ∀ w ∈ wsX00, w ∈ wsX3_figure := fun _ h => List.mem_cons_of_mem _ (List.mem_append_left _ (List.mem_append_left _ (List.mem_append_left _ (List.mem_append_left _ (List.mem_append_right _ (h))))))
  have hi_X3 : ∀ w ∈ wsX30, w ∈ wsX3_figure := fun _ h => List.mem_cons_of_mem _ (List.mem_append_left _ (List.mem_append_left _ (List.mem_append_left _ (List.mem_append_left _ (List.mem_append_left _ (List.mem_append_right _ (h)))))))
  have hi_X4 : ∀ w ∈ wsX40, w ∈ wsX3_figure := fun _ h => List.mem_cons_of_mem _ (List.mem_append_left _ (List.mem_append_left _ (List.mem_append_left _ (List.mem_append_right _ (h)))))
  have hS : va_S A s.heap s.heap [] := va_S.rf
  have hl : lv_has ls 2 [(0, .ref (a 0)), (1, .int p0)] := hl
  unfold fX3_figure at h
  refine lv_iload_n hx hb dX3_figure_0 rfl (lv_at hl 1 rfl) ?_
  by_cases c_1 : p0 = 0
  · have h := ip_ h c_1
    refine lv_tableIn (off := 55) (tgt := 56) hx hb dX3_figure_1 (by rw [c_1]; decide) (by rw [c_1]; decide) (by rw [c_1]; rfl) (by decide) ?_
    refine lv_aload_n hx hb dX3_figure_56 rfl (lv_at hl 0 rfl) ?_
    refine va_get (ci := 6) (v := .int (g 0)) (C := RX3) (T := TX3) (N := 9) hx hb hts hi_X3 hown hK hP 0 rfl rfl 4 (by decide) (hts (.fieldLink RX3 118 "WishWell$Well" "day" "I") (List.mem_of_getElem? (i := 1) rfl)) (fun _ h9 => h9) rfl dX3_figure_57 ?_
    have h0 := o1 h
    exact eI hx hb hr hlk hP hS dX3_figure_60 (Nat.le_of_ble_eq_true rfl) (Nat.le_of_ble_eq_true rfl) h0 rfl
  have h := in_ h c_1
  have tc_1 := sw_n 0 0 (by decide) c_1
  by_cases c_2 : p0 = 1
  · have h := ip_ h c_2
    refine lv_tableIn (off := 60) (tgt := 61) hx hb dX3_figure_1 (by rw [c_2]; decide) (by rw [c_2]; decide) (by rw [c_2]; rfl) (by decide) ?_
    refine lv_aload_n hx hb dX3_figure_61 rfl (lv_at hl 0 rfl) ?_
    refine va_get (ci := 6) (v := .ref (a 1)) (C := RX3) (T := TX3) (N := 9) hx hb hts hi_X3 hown hK hP 0 rfl rfl 0 (by decide) (hts (.fieldLink RX3 12 "WishWell$Well" "lands" "LWishWell$Lands;") (List.mem_of_getElem? (i := 2) rfl)) (fun _ h9 => h9) rfl dX3_figure_62 ?_
    refine va_get (ci := 3) (v := .int (g 5)) (C := RX0) (T := TX0) (N := 6) hx hb hts hi_X0 hown hK hP 1 rfl rfl 5 (by decide) (hts (.fieldLink RX3 95 "WishWell$Lands" "size" "I") (List.mem_of_getElem? (i := 3) rfl)) (fun _ h9 => h9) rfl dX3_figure_65 ?_
    have h0 := o1 h
    exact eI hx hb hr hlk hP hS dX3_figure_68 (Nat.le_of_ble_eq_true rfl) (Nat.le_of_ble_eq_true rfl) h0 rfl
  have h := in_ h c_2
  have tc_2 := sw_n 1 1 (by decide) c_2
  by_cases c_3 : p0 = 2
  · have h := ip_ h c_3
    refine lv_tableIn (off := 68) (tgt := 69) hx hb dX3_figure_1 (by rw [c_3]; decide) (by rw [c_3]; decide) (by rw [c_3]; rfl) (by decide) ?_
    refine lv_aload_n hx hb dX3_figure_69 rfl (lv_at hl 0 rfl) ?_
    refine va_get (ci := 6) (v := .ref (a 2)) (C := RX3) (T := TX3) (N := 9) hx hb hts hi_X3 hown hK hP 0 rfl rfl 1 (by decide) (hts (.fieldLink RX3 21 "WishWell$Well" "wishes" "LWishWell$Wishes;") (List.mem_of_getElem? (i := 4) rfl)) (fun _ h9 => h9) rfl dX3_figure_70 ?_
    refine va_get (ci := 7) (v := .int (g 6)) (C := RX4) (T := TX4) (N := 6) hx hb hts hi_X4 hown hK hP 2 rfl rfl 5 (by decide) (hts (.fieldLink RX3 121 "WishWell$Wishes" "size" "I") (List.mem_of_getElem? (i := 5) rfl)) (fun _ h9 => h9) rfl dX3_figure_73 ?_
    have h0 := o1 h
    exact eI hx hb hr hlk hP hS dX3_figure_76 (Nat.le_of_ble_eq_true rfl) (Nat.le_of_ble_eq_true rfl) h0 rfl
  have h := in_ h c_3
  have tc_3 := sw_n 2 2 (by decide) c_3
  by_cases c_4 : p0 = 3
  · have h := ip_ h c_4
    refine lv_tableIn (off := 76) (tgt := 77) hx hb dX3_figure_1 (by rw [c_4]; decide) (by rw [c_4]; decide) (by rw [c_4]; rfl) (by decide) ?_
    refine lv_aload_n hx hb dX3_figure_77 rfl (lv_at hl 0 rfl) ?_
    refine va_get (ci := 6) (v := .ref (a 2)) (C := RX3) (T := TX3) (N := 9) hx hb hts hi_X3 hown hK hP 0 rfl rfl 1 (by decide) (hts (.fieldLink RX3 21 "WishWell$Well" "wishes" "LWishWell$Wishes;") (List.mem_of_getElem? (i := 4) rfl)) (fun _ h9 => h9) rfl dX3_figure_78 ?_
    refine lv_iconst (v := 0) hx hb dX3_figure_81 (by decide) ?_
    obtain ⟨r_5, hx_6, h⟩ := bd_I h
    refine kVi (As := [.int 0]) (rest := []) B hK hN hP hD hS hA (c_X4_howMany l D cI cJ a G g 0 r_5 rs hx_6) (cwV 1 hts gX3_figure_X4_howMany rfl rfl rfl (by decide +kernel) ⟨(Nat.le_of_ble_eq_true rfl), (Nat.le_of_ble_eq_true rfl)⟩) 7 2 rfl rfl rfl hl.1 rfl (Nat.le_of_ble_eq_true rfl) dX3_figure_82 ⟨(Nat.le_of_ble_eq_true rfl), (Nat.le_of_ble_eq_true rfl)⟩ rfl (fun H locs hP hD hS => ?_)
    have h0 := o1 h
    exact eI hx hb hr hlk hP hS dX3_figure_85 (Nat.le_of_ble_eq_true rfl) (Nat.le_of_ble_eq_true rfl) h0 rfl
  have h := in_ h c_4
  have tc_4 := sw_n 3 3 (by decide) c_4
  by_cases c_7 : p0 = 4
  · have h := ip_ h c_7
    refine lv_tableIn (off := 85) (tgt := 86) hx hb dX3_figure_1 (by rw [c_7]; decide) (by rw [c_7]; decide) (by rw [c_7]; rfl) (by decide) ?_
    refine lv_aload_n hx hb dX3_figure_86 rfl (lv_at hl 0 rfl) ?_
    refine va_get (ci := 6) (v := .ref (a 2)) (C := RX3) (T := TX3) (N := 9) hx hb hts hi_X3 hown hK hP 0 rfl rfl 1 (by decide) (hts (.fieldLink RX3 21 "WishWell$Well" "wishes" "LWishWell$Wishes;") (List.mem_of_getElem? (i := 4) rfl)) (fun _ h9 => h9) rfl dX3_figure_87 ?_
    refine lv_iconst (v := 1) hx hb dX3_figure_90 (by decide) ?_
    obtain ⟨r_8, hx_9, h⟩ := bd_I h
    refine kVi (As := [.int 1]) (rest := []) B hK hN hP hD hS hA (c_X4_howMany l D cI cJ a G g 1 r_8 rs hx_9) (cwV 1 hts gX3_figure_X4_howMany rfl rfl rfl (by decide +kernel) ⟨(Nat.le_of_ble_eq_true rfl), (Nat.le_of_ble_eq_true rfl)⟩) 7 2 rfl rfl rfl hl.1 rfl (Nat.le_of_ble_eq_true rfl) dX3_figure_91 ⟨(Nat.le_of_ble_eq_true rfl), (Nat.le_of_ble_eq_true rfl)⟩ rfl (fun H locs hP hD hS => ?_)
    have h0 := o1 h
    exact eI hx hb hr hlk hP hS dX3_figure_94 (Nat.le_of_ble_eq_true rfl) (Nat.le_of_ble_eq_true rfl) h0 rfl
  have h := in_ h c_7
  have tc_7 := sw_n 4 4 (by decide) c_7
  by_cases c_10 : p0 = 5
  · have h := ip_ h c_10
    refine lv_tableIn (off := 94) (tgt := 95) hx hb dX3_figure_1 (by rw [c_10]; decide) (by rw [c_10]; decide) (by rw [c_10]; rfl) (by decide) ?_
    refine lv_aload_n hx hb dX3_figure_95 rfl (lv_at hl 0 rfl) ?_
    refine va_get (ci := 6) (v := .int (g 1)) (C := RX3) (T := TX3) (N := 9) hx hb hts hi_X3 hown hK hP 0 rfl rfl 5 (by decide) (hts (.fieldLink RX3 41 "WishWell$Well" "favour" "I") (List.mem_of_getElem? (i := 6) rfl)) (fun _ h9 => h9) rfl dX3_figure_96 ?_
    have h0 := o1 h
    exact eI hx hb hr hlk hP hS dX3_figure_99 (Nat.le_of_ble_eq_true rfl) (Nat.le_of_ble_eq_true rfl) h0 rfl
  have h := in_ h c_10
  have tc_10 := sw_n 5 5 (by decide) c_10
  by_cases c_11 : p0 = 6
  · have h := ip_ h c_11
    refine lv_tableIn (off := 99) (tgt := 100) hx hb dX3_figure_1 (by rw [c_11]; decide) (by rw [c_11]; decide) (by rw [c_11]; rfl) (by decide) ?_
    refine lv_aload_n hx hb dX3_figure_100 rfl (lv_at hl 0 rfl) ?_
    refine va_get (ci := 6) (v := .int (g 2)) (C := RX3) (T := TX3) (N := 9) hx hb hts hi_X3 hown hK hP 0 rfl rfl 6 (by decide) (hts (.fieldLink RX3 125 "WishWell$Well" "turn" "I") (List.mem_of_getElem? (i := 7) rfl)) (fun _ h9 => h9) rfl dX3_figure_101 ?_
    have h0 := o1 h
    exact eI hx hb hr hlk hP hS dX3_figure_104 (Nat.le_of_ble_eq_true rfl) (Nat.le_of_ble_eq_true rfl) h0 rfl
  have h := in_ h c_11
  have tc_11 := sw_n 6 6 (by decide) c_11
  by_cases c_12 : p0 = 7
  · have h := ip_ h c_12
    refine lv_tableIn (off := 104) (tgt := 105) hx hb dX3_figure_1 (by rw [c_12]; decide) (by rw [c_12]; decide) (by rw [c_12]; rfl) (by decide) ?_
    refine lv_aload_n hx hb dX3_figure_105 rfl (lv_at hl 0 rfl) ?_
    obtain ⟨r_13, hx_14, h⟩ := bd_I h
    refine kVi (As := []) (rest := []) B hK hN hP hD hS hA (c_X3_coinsInAll l D cI cJ a G g  r_13 rs hx_14) (cwV 0 hts gX3_figure_X3_coinsInAll rfl rfl rfl (by decide +kernel) ⟨(Nat.le_of_ble_eq_true rfl), (Nat.le_of_ble_eq_true rfl)⟩) 6 0 rfl rfl rfl hl.1 rfl (Nat.le_of_ble_eq_true rfl) dX3_figure_106 ⟨(Nat.le_of_ble_eq_true rfl), (Nat.le_of_ble_eq_true rfl)⟩ rfl (fun H locs hP hD hS => ?_)
    have h0 := o1 h
    exact eI hx hb hr hlk hP hS dX3_figure_109 (Nat.le_of_ble_eq_true rfl) (Nat.le_of_ble_eq_true rfl) h0 rfl
  have h := in_ h c_12
  have tc_12 := sw_n 7 7 (by decide) c_12
  by_cases c_15 : p0 = 8
  · have h := ip_ h c_15
    refine lv_tableIn (off := 109) (tgt := 110) hx hb dX3_figure_1 (by rw [c_15]; decide) (by rw [c_15]; decide) (by rw [c_15]; rfl) (by decide) ?_
    refine lv_aload_n hx hb dX3_figure_110 rfl (lv_at hl 0 rfl) ?_
    obtain ⟨r_16, hx_17, h⟩ := bd_I h
    refine kVi (As := []) (rest := []) B hK hN hP hD hS hA (c_X3_valueOfAll l D cI cJ a G g  r_16 rs hx_17) (cwV 0 hts gX3_figure_X3_valueOfAll rfl rfl rfl (by decide +kernel) ⟨(Nat.le_of_ble_eq_true rfl), (Nat.le_of_ble_eq_true rfl)⟩) 6 0 rfl rfl rfl hl.1 rfl (Nat.le_of_ble_eq_true rfl) dX3_figure_111 ⟨(Nat.le_of_ble_eq_true rfl), (Nat.le_of_ble_eq_true rfl)⟩ rfl (fun H locs hP hD hS => ?_)
    have h0 := o1 h
    exact eI hx hb hr hlk hP hS dX3_figure_114 (Nat.le_of_ble_eq_true rfl) (Nat.le_of_ble_eq_true rfl) h0 rfl
  have h := in_ h c_15
  have tc_15 := sw_n 8 8 (by decide) c_15
  by_cases c_18 : p0 = 9
  · have h := ip_ h c_18
    refine lv_tableIn (off := 114) (tgt := 115) hx hb dX3_figure_1 (by rw [c_18]; decide) (by rw [c_18]; decide) (by rw [c_18]; rfl) (by decide) ?_
    refine lv_aload_n hx hb dX3_figure_115 rfl (lv_at hl 0 rfl) ?_
    refine va_get (ci := 6) (v := .int (g 3)) (C := RX3) (T := TX3) (N := 9) hx hb hts hi_X3 hown hK hP 0 rfl rfl 7 (by decide) (hts (.fieldLink RX3 103 "WishWell$Well" "purse" "I") (List.mem_of_getElem? (i := 8) rfl)) (fun _ h9 => h9) rfl dX3_figure_116 ?_
    have h0 := o1 h
    exact eI hx hb hr hlk hP hS dX3_figure_119 (Nat.le_of_ble_eq_true rfl) (Nat.le_of_ble_eq_true rfl) h0 rfl
  have h := in_ h c_18
  have tc_18 := sw_n 9 9 (by decide) c_18
  refine lv_tableOut (tgt := 120) hx hb dX3_figure_1 (by omega) (by decide) ?_
  refine lv_aload_n hx hb dX3_figure_120 rfl (lv_at hl 0 rfl) ?_
  refine va_get (ci := 6) (v := .int (g 4)) (C := RX3) (T := TX3) (N := 9) hx hb hts hi_X3 hown hK hP 0 rfl rfl 8 (by decide) (hts (.fieldLink RX3 92 "WishWell$Well" "fished" "I") (List.mem_of_getElem? (i := 9) rfl)) (fun _ h9 => h9) rfl dX3_figure_121 ?_
  have h0 := o1 h
  exact eI hx hb hr hlk hP hS dX3_figure_124 (Nat.le_of_ble_eq_true rfl) (Nat.le_of_ble_eq_true rfl) h0 rfl
noncomputable def fX3_nextWish_B7 (G : Nat → Nat → Int32) (g : Nat → Int32) (p0 : Int32) (x2_1 : Int32) (x3_1 : Int32) (x4_1 : Int32)  : Option ((Int32 × Int32 × Int32) ⊕ (Int32 × Int32 × Int32)) := if (g 6) ≤ x4_1 then (some (.inr (x2_1, x3_1, x4_1))) else (lt_ (fX3_coinValue G x4_1) (fun y5_3 => if (fX4_waitsFor G x4_1 p0) = 0 then (some (.inl (x2_1, x3_1, x4_1 + 1))) else (if y5_3 ≤ x3_1 then (some (.inl (x2_1, x3_1, x4_1 + 1))) else (some (.inl (x4_1, y5_3, x4_1 + 1))))))
noncomputable def fX3_nextWish (G : Nat → Nat → Int32) (g : Nat → Int32) (p0 : Int32) : Option (Int32) := b3 (lp (fun s => fX3_nextWish_B7 G g p0 s.1 s.2.1 s.2.2) 25 ((-1), 0, 0)) (fun z2_1 z3_1 z4_1 => some z2_1)
set_option maxHeartbeats 4000000 in
set_option maxRecDepth 100000 in
theorem c_X3_nextWish (l : Launch) (D : va_G) (cI cJ : ClassId) (a : Nat → Nat) (G : Nat → Nat → Int32) (g : Nat → Int32) (p0 : Int32) (r' : Int32) (rs : va_W) (h : fX3_nextWish G g p0 = some r') : Ci l yX3_nextWish wsX3_nextWish ({ frames := 2, cells := 0, slots := 0, locals := 43 } : Room) D cI cJ ([.ref (a 0), .int p0] : List Value) (wl cI a G g ++ rs) r' (wl cI a G g ++ rs) := by
  refine Ci.mk (cc := cX3_nextWish) (maxL := 6) (ret := (some .int)) (by decide) rfl (Nat.le_of_ble_eq_true rfl) ?_
  intro p e s m below meth c A ls B hr hlk hK hN hA hP hD hl
  obtain ⟨hx, hb, hml, hown, hts⟩ := id B
  have hi_X3 : ∀ w ∈ wsX30, w ∈ wsX3_nextWish := fun _ h => List.mem_cons_of_mem _ (List.mem_append_left _ (List.mem_append_left _ (List.mem_append_left _ (List.mem_append_left _ (List.mem_append_right _ (h))))))
  have hi_X4 : ∀ w ∈ wsX40, w ∈ wsX3_nextWish := fun _ h => List.mem_cons_of_mem _ (List.mem_append_left _ (List.mem_append_left _ (List.mem_append_left _ (List.mem_append_right _ (h)))))
  have hS : va_S A s.heap s.heap [] := va_S.rf
  have hl : lv_has ls 6 [(0, .ref (a 0)), (1, .int p0)] := hl
  unfold fX3_nextWish at h
  refine lv_iconst (v := (-1)) hx hb dX3_nextWish_0 (by decide) ?_
  refine lv_istore_n (lv' := [(2, .int (-1)), (0, .ref (a 0)), (1, .int p0)]) hx hb dX3_nextWish_1 rfl hl (by decide) rfl (fun ls hl => ?_)
  refine lv_iconst (v := 0) hx hb dX3_nextWish_2 (by decide) ?_
  refine lv_istore_n (lv' := [(3, .int 0), (2, .int (-1)), (0, .ref (a 0)), (1, .int p0)]) hx hb dX3_nextWish_3 rfl hl (by decide) rfl (fun ls hl => ?_)
  refine lv_iconst (v := 0) hx hb dX3_nextWish_4 (by decide) ?_
  refine lv_istore (lv' := [(4, .int 0), (3, .int 0), (2, .int (-1)), (0, .ref (a 0)), (1, .int p0)]) hx hb dX3_nextWish_5 hl (by decide) rfl (fun ls hl => ?_)
  have L7_1 : ∀ (n : Nat) (x2_1 : Int32) (x3_1 : Int32) (x4_1 : Int32)  (z2_1 : Int32) (z3_1 : Int32) (z4_1 : Int32)  (_ : lp (fun s => fX3_nextWish_B7 G g p0 s.1 s.2.1 s.2.2) n (x2_1, x3_1, x4_1) = some (z2_1, z3_1, z4_1)) (_ : ∀ (H : Heap) (locs : List Loc) (ls : Array Slot), va_P D vwCl (wl cI a G g ++ rs) H → va_D A (wl cI a G g ++ rs) → va_S A s.heap H locs → lv_has ls 6 [(0, .ref (a 0)), (1, .int p0), (2, .int z2_1), (3, .int z3_1), (4, .int z4_1)] → W p l e (headSpec wsX3_nextWish ({ frames := 2, cells := 0, slots := 0, locals := 43 } : Room)).room s m ([.ref (a 0), .int p0] : List Value).toArray below meth c H locs (0) (0) (QI below D (wl cI a G g ++ rs) r' ([.ref (a 0), .int p0] : List Value).toArray s 0 0 A) (F0 m 58 ls [])) (H : Heap) (locs : List Loc) (ls : Array Slot), va_P D vwCl (wl cI a G g ++ rs) H → va_D A (wl cI a G g ++ rs) → va_S A s.heap H locs → lv_has ls 6 [(0, .ref (a 0)), (1, .int p0), (2, .int x2_1), (3, .int x3_1), (4, .int x4_1)] → W p l e (headSpec wsX3_nextWish ({ frames := 2, cells := 0, slots := 0, locals := 43 } : Room)).room s m ([.ref (a 0), .int p0] : List Value).toArray below meth c H locs (0) (0) (QI below D (wl cI a G g ++ rs) r' ([.ref (a 0), .int p0] : List Value).toArray s 0 0 A) (F0 m 7 ls []) := by
    intro n
    induction n with
    | zero => intro x2_1 x3_1 x4_1 z2_1 z3_1 z4_1 h; exact (lp_0 h).elim
    | succ n ih =>
      intro x2_1 x3_1 x4_1 z2_1 z3_1 z4_1 h kk H locs ls hP hD hS hl
      obtain ⟨z, h, hz⟩ := lp_walk h
      have h : fX3_nextWish_B7 G g p0 x2_1 x3_1 x4_1 = some z := h
      unfold fX3_nextWish_B7 at h
      refine lv_iload hx hb dX3_nextWish_7 (lv_at hl 4 rfl) ?_
      refine lv_aload_n hx hb dX3_nextWish_9 rfl (lv_at hl 0 rfl) ?_
      refine va_get (ci := 6) (v := .ref (a 2)) (C := RX3) (T := TX3) (N := 9) hx hb hts hi_X3 hown hK hP 0 rfl rfl 1 (by decide) (hts (.fieldLink RX3 21 "WishWell$Well" "wishes" "LWishWell$Wishes;") (List.mem_of_getElem? (i := 1) rfl)) (fun _ h9 => h9) rfl dX3_nextWish_10 ?_
      refine va_get (ci := 7) (v := .int (g 6)) (C := RX4) (T := TX4) (N := 6) hx hb hts hi_X4 hown hK hP 2 rfl rfl 5 (by decide) (hts (.fieldLink RX3 121 "WishWell$Wishes" "size" "I") (List.mem_of_getElem? (i := 2) rfl)) (fun _ h9 => h9) rfl dX3_nextWish_13 ?_
      refine lv_icmp_ge (tgt := 58) hx hb dX3_nextWish_16 (by decide) (fun c_2 => ?_) (fun c_2 => ?_)
      · have h := ip_ h c_2
        cases lz_e h hz
        exact kk _ _ _ hP hD hS (lv_sub hl [0, 1, 2, 3, 4] rfl)
      · have h := in_ h c_2
        refine lv_aload_n hx hb dX3_nextWish_19 rfl (lv_at hl 0 rfl) ?_
        refine lv_iload hx hb dX3_nextWish_20 (lv_at hl 4 rfl) ?_
        refine kVi (As := [.int x4_1]) (rest := []) B hK hN hP hD hS hA (c_X3_coinValue l D cI cJ a G g x4_1 rs _ rfl) (cwV 1 hts gX3_nextWish_X3_coinValue rfl rfl rfl (by decide +kernel) ⟨(Nat.le_of_ble_eq_true rfl), (Nat.le_of_ble_eq_true rfl)⟩) 6 0 rfl rfl rfl hl.1 rfl (Nat.le_of_ble_eq_true rfl) dX3_nextWish_22 ⟨(Nat.le_of_ble_eq_true rfl), (Nat.le_of_ble_eq_true rfl)⟩ rfl (fun H locs hP hD hS => ?_)
        obtain ⟨y5_3, ey5_3, h⟩ := lt_I h
        rw [← ey5_3]
        refine lv_istore (lv' := [(5, .int y5_3), (0, .ref (a 0)), (1, .int p0), (2, .int x2_1), (3, .int x3_1), (4, .int x4_1)]) hx hb dX3_nextWish_25 hl (by decide) rfl (fun ls hl => ?_)
        refine lv_aload_n hx hb dX3_nextWish_27 rfl (lv_at hl 1 rfl) ?_
        refine va_get (ci := 6) (v := .ref (a 2)) (C := RX3) (T := TX3) (N := 9) hx hb hts hi_X3 hown hK hP 0 rfl rfl 1 (by decide) (hts (.fieldLink RX3 21 "WishWell$Well" "wishes" "LWishWell$Wishes;") (List.mem_of_getElem? (i := 1) rfl)) (fun _ h9 => h9) rfl dX3_nextWish_28 ?_
        refine lv_iload hx hb dX3_nextWish_31 (lv_at hl 5 rfl) ?_
        refine lv_iload_n hx hb dX3_nextWish_33 rfl (lv_at hl 2 rfl) ?_
        refine kVi (As := [.int x4_1, .int p0]) (rest := []) B hK hN hP hD hS hA (c_X4_waitsFor l D cI cJ a G g x4_1 p0 rs _ rfl) (cwV 2 hts gX3_nextWish_X4_waitsFor rfl rfl rfl (by decide +kernel) ⟨(Nat.le_of_ble_eq_true rfl), (Nat.le_of_ble_eq_true rfl)⟩) 7 2 rfl rfl rfl hl.1 rfl (Nat.le_of_ble_eq_true rfl) dX3_nextWish_34 ⟨(Nat.le_of_ble_eq_true rfl), (Nat.le_of_ble_eq_true rfl)⟩ rfl (fun H locs hP hD hS => ?_)
        refine lv_if_eq (tgt := 52) hx hb dX3_nextWish_37 (by decide) (fun c_4 => ?_) (fun c_4 => ?_)
        · have h := ip_ h c_4
          refine lv_iinc (v := x4_1 + 1) (lv' := [(4, .int (x4_1 + 1)), (5, .int y5_3), (0, .ref (a 0)), (1, .int p0), (2, .int x2_1), (3, .int x3_1)]) hx hb dX3_nextWish_52 hl (k := 5) rfl rfl (by decide) rfl (fun ls hl => ?_)
          refine lv_goto (tgt := 7) hx hb dX3_nextWish_55 (by decide) ?_
          exact ih x2_1 x3_1 (x4_1 + 1) _ _ _ (lz_c h hz) kk _ _ _ hP hD hS (lv_sub hl [2, 3, 4, 5, 0] rfl)
        · have h := in_ h c_4
          refine lv_iload hx hb dX3_nextWish_40 (lv_at hl 0 rfl) ?_
          refine lv_iload_n hx hb dX3_nextWish_42 rfl (lv_at hl 4 rfl) ?_
          refine lv_icmp_le (tgt := 52) hx hb dX3_nextWish_43 (by decide) (fun c_5 => ?_) (fun c_5 => ?_)
          · have h := ip_ h c_5
            refine lv_iinc (v := x4_1 + 1) (lv' := [(4, .int (x4_1 + 1)), (5, .int y5_3), (0, .ref (a 0)), (1, .int p0), (2, .int x2_1), (3, .int x3_1)]) hx hb dX3_nextWish_52 hl (k := 5) rfl rfl (by decide) rfl (fun ls hl => ?_)
            refine lv_goto (tgt := 7) hx hb dX3_nextWish_55 (by decide) ?_
            exact ih x2_1 x3_1 (x4_1 + 1) _ _ _ (lz_c h hz) kk _ _ _ hP hD hS (lv_sub hl [2, 3, 4, 5, 0] rfl)
          · have h := in_ h c_5
            refine lv_iload hx hb dX3_nextWish_46 (lv_at hl 5 rfl) ?_
            refine lv_istore_n (lv' := [(2, .int x4_1), (5, .int y5_3), (0, .ref (a 0)), (1, .int p0), (3, .int x3_1), (4, .int x4_1)]) hx hb dX3_nextWish_48 rfl hl (by decide) rfl (fun ls hl => ?_)
            refine lv_iload hx hb dX3_nextWish_49 (lv_at hl 1 rfl) ?_
            refine lv_istore_n (lv' := [(3, .int y5_3), (2, .int x4_1), (5, .int y5_3), (0, .ref (a 0)), (1, .int p0), (4, .int x4_1)]) hx hb dX3_nextWish_51 rfl hl (by decide) rfl (fun ls hl => ?_)
            refine lv_iinc (v := x4_1 + 1) (lv' := [(4, .int (x4_1 + 1)), (3, .int y5_3), (2, .int x4_1), (5, .int y5_3), (0, .ref (a 0)), (1, .int p0)]) hx hb dX3_nextWish_52 hl (k := 5) rfl rfl (by decide) rfl (fun ls hl => ?_)
            refine lv_goto (tgt := 7) hx hb dX3_nextWish_55 (by decide) ?_
            exact ih x4_1 y5_3 (x4_1 + 1) _ _ _ (lz_c h hz) kk _ _ _ hP hD hS (lv_sub hl [4, 5, 2, 1, 0] rfl)
  obtain ⟨z2_1, z3_1, z4_1, hl_1, h⟩ := b3_I h
  refine L7_1 25 (-1) 0 0  z2_1 z3_1 z4_1 hl_1 (fun H locs ls hP hD hS hl => ?_) _ _ _ hP hD hS (lv_sub hl [3, 4, 2, 1, 0] rfl)
  refine lv_iload_n hx hb dX3_nextWish_58 rfl (lv_at hl 2 rfl) ?_
  have h0 := o1 h
  exact eI hx hb hr hlk hP hS dX3_nextWish_59 (Nat.le_of_ble_eq_true rfl) (Nat.le_of_ble_eq_true rfl) h0 rfl
