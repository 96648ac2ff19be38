/-! laid by wip/whole/gen.py -/
noncomputable def fX5_addLand (G : Nat → Nat → Int32) (g : Nat → Int32) (p0 : Int32) (p1 : Int32) : Option (String ⊕ (Int32 × (Nat → Nat → Int32) × (Nat → Int32))) := if (fX5_within p0 1 50) = 0 then (some (.inl "java/lang/IllegalArgumentException")) else (if (fX5_within p1 1 9) = 0 then (some (.inl "java/lang/IllegalArgumentException")) else (if (g 5) < 6 then (b3 (fX0_tell G g p0 p1) (fun r_4 G_5 g_6 => some (.inr (r_4, G_5, g_6)))) else (some (.inl "java/lang/IllegalStateException"))))
set_option maxHeartbeats 4000000 in
set_option maxRecDepth 100000 in
theorem c_X5_addLand (l : Launch) (hfl : l.stackTraces = false) (D : va_G) (cI cJ : ClassId) (a b x : Nat → Nat) (G : Nat → Nat → Int32) (g : Nat → Int32) (J : Nat → Nat → Int32) (j : Nat → Int32) (F : Nat → Int32) (p0 : Int32) (p1 : Int32) (z : String ⊕ (Int32 × (Nat → Nat → Int32) × (Nat → Int32))) (rs : va_W) (h : fX5_addLand G g p0 p1 = some z) : Cx l yX5_addLand wsX5_addLand ({ frames := 6, cells := 1, slots := 6, locals := 82 } : Room) D cI cJ ([.ref (x 0), .int p0, .int p1] : List Value) (wl cI a G g ++ (wl cI b J j ++ (xr cI a b x F ++ rs))) (z.elim .inl (fun q => .inr (q.1, wl cI a q.2.1 q.2.2 ++ (wl cI b J j ++ (xr cI a b x F ++ rs))))) := by
  refine Cx.mk (cc := cX5_addLand) (maxL := 3) (ret := (some .int)) (by decide) rfl (Nat.le_of_ble_eq_true rfl) ?_
  intro p e s m below meth c A ls B hr hlk htb hT hK hN hA hP hD hl
  obtain ⟨hx, hb, hml, hown, hts⟩ := id B
  have hi_X0 : ∀ w ∈ wsX00, w ∈ wsX5_addLand := fun _ h => List.mem_cons_of_mem _ (List.mem_append_left _ (List.mem_append_left _ (List.mem_append_left _ (List.mem_append_left _ (List.mem_append_right _ (h))))))
  have hi_X3 : ∀ w ∈ wsX30, w ∈ wsX5_addLand := fun _ h => List.mem_cons_of_mem _ (List.mem_append_left _ (List.mem_append_left _ (List.mem_append_left _ (List.mem_append_left _ (List.mem_append_left _ (List.mem_append_right _ (h)))))))
  have hi_X5 : ∀ w ∈ wsX50, w ∈ wsX5_addLand := fun _ h => List.mem_cons_of_mem _ (List.mem_append_left _ (List.mem_append_left _ (List.mem_append_left _ (List.mem_append_left _ (List.mem_append_left _ (List.mem_append_left _ (List.mem_append_right _ (h))))))))
  have hS : va_S A s.heap s.heap [] := va_S.rf
  have hl : lv_has ls 3 [(0, .ref (x 0)), (1, .int p0), (2, .int p1)] := hl
  unfold fX5_addLand at h
  refine lv_iload_n hx hb dX5_addLand_0 rfl (lv_at hl 1 rfl) ?_
  refine lv_iconst (v := 1) hx hb dX5_addLand_1 (by decide) ?_
  refine lv_bipush (v := 50) hx hb dX5_addLand_2 (by decide) ?_
  refine kSi (As := [.int p0, .int 1, .int 50]) (rest := []) B hK hN hP hD hS hA (c_X5_within l D cI cJ  p0 1 50 (wl cI a G g ++ (wl cI b J j ++ (xr cI a b x F ++ rs))) _ rfl) (va_cwS 3 hts gX5_addLand_X5_within rfl rfl rfl (by decide +kernel) ⟨(Nat.le_of_ble_eq_true rfl), (Nat.le_of_ble_eq_true rfl)⟩) rfl hl.1 rfl (Nat.le_of_ble_eq_true rfl) dX5_addLand_4 ⟨(Nat.le_of_ble_eq_true rfl), (Nat.le_of_ble_eq_true rfl)⟩ rfl (fun H locs hP hD hS => ?_)
  refine lv_if_ne (tgt := 20) hx hb dX5_addLand_7 (by decide) (fun c_1 => ?_) (fun c_1 => ?_)
  · have h := in_ h c_1
    refine lv_iload_n hx hb dX5_addLand_20 rfl (lv_at hl 2 rfl) ?_
    refine lv_iconst (v := 1) hx hb dX5_addLand_21 (by decide) ?_
    refine lv_bipush (v := 9) hx hb dX5_addLand_22 (by decide) ?_
    refine kSi (As := [.int p1, .int 1, .int 9]) (rest := []) B hK hN hP hD hS hA (c_X5_within l D cI cJ  p1 1 9 (wl cI a G g ++ (wl cI b J j ++ (xr cI a b x F ++ rs))) _ rfl) (va_cwS 3 hts gX5_addLand_X5_within rfl rfl rfl (by decide +kernel) ⟨(Nat.le_of_ble_eq_true rfl), (Nat.le_of_ble_eq_true rfl)⟩) rfl hl.1 rfl (Nat.le_of_ble_eq_true rfl) dX5_addLand_24 ⟨(Nat.le_of_ble_eq_true rfl), (Nat.le_of_ble_eq_true rfl)⟩ rfl (fun H locs hP hD hS => ?_)
    refine lv_if_ne (tgt := 40) hx hb dX5_addLand_27 (by decide) (fun c_2 => ?_) (fun c_2 => ?_)
    · have h := in_ h c_2
      refine lv_aload_n hx hb dX5_addLand_40 rfl (lv_at hl 0 rfl) ?_
      refine va_get (ci := 8) (v := .ref (a 0)) (C := RX5) (T := TX5) (N := 3) hx hb hts hi_X5 hown hK hP 56 rfl rfl 0 (by decide) (hts (.fieldLink RX5 10 "WishWell" "well" "LWishWell$Well;") (List.mem_of_getElem? (i := 5) rfl)) (fun _ h9 => h9) rfl dX5_addLand_41 ?_
      refine va_get (ci := 6) (v := .ref (a 1)) (C := RX3) (T := TX3) (N := 9) hx hb hts hi_X3 hown hK hP 0 rfl rfl 0 (by decide) (hts (.fieldLink RX5 41 "WishWell$Well" "lands" "LWishWell$Lands;") (List.mem_of_getElem? (i := 6) rfl)) (fun _ h9 => h9) rfl dX5_addLand_44 ?_
      refine va_get (ci := 3) (v := .int (g 5)) (C := RX0) (T := TX0) (N := 6) hx hb hts hi_X0 hown hK hP 1 rfl rfl 5 (by decide) (hts (.fieldLink RX5 45 "WishWell$Lands" "size" "I") (List.mem_of_getElem? (i := 7) rfl)) (fun _ h9 => h9) rfl dX5_addLand_47 ?_
      refine lv_bipush (v := 6) hx hb dX5_addLand_50 (by decide) ?_
      refine lv_icmp_lt (tgt := 65) hx hb dX5_addLand_52 (by decide) (fun c_3 => ?_) (fun c_3 => ?_)
      · have h := ip_ h c_3
        refine lv_aload_n hx hb dX5_addLand_65 rfl (lv_at hl 0 rfl) ?_
        refine va_get (ci := 8) (v := .ref (a 0)) (C := RX5) (T := TX5) (N := 3) hx hb hts hi_X5 hown hK hP 56 rfl rfl 0 (by decide) (hts (.fieldLink RX5 10 "WishWell" "well" "LWishWell$Well;") (List.mem_of_getElem? (i := 5) rfl)) (fun _ h9 => h9) rfl dX5_addLand_66 ?_
        refine va_get (ci := 6) (v := .ref (a 1)) (C := RX3) (T := TX3) (N := 9) hx hb hts hi_X3 hown hK hP 0 rfl rfl 0 (by decide) (hts (.fieldLink RX5 41 "WishWell$Well" "lands" "LWishWell$Lands;") (List.mem_of_getElem? (i := 6) rfl)) (fun _ h9 => h9) rfl dX5_addLand_69 ?_
        refine lv_iload_n hx hb dX5_addLand_72 rfl (lv_at hl 1 rfl) ?_
        refine lv_iload_n hx hb dX5_addLand_73 rfl (lv_at hl 2 rfl) ?_
        obtain ⟨r_4, G_5, g_6, hx_7, h⟩ := b3_I h
        refine kVi (As := [.int p0, .int p1]) (rest := []) B hK hN hP hD hS hA (c_X0_tell l D cI cJ a G g p0 p1 r_4 G_5 g_6 (wl cI b J j ++ (xr cI a b x F ++ rs)) hx_7) (cwV 2 hts gX5_addLand_X0_tell rfl rfl rfl (by decide +kernel) ⟨(Nat.le_of_ble_eq_true rfl), (Nat.le_of_ble_eq_true rfl)⟩) 3 1 rfl rfl rfl hl.1 rfl (Nat.le_of_ble_eq_true rfl) dX5_addLand_74 ⟨(Nat.le_of_ble_eq_true rfl), (Nat.le_of_ble_eq_true rfl)⟩ rfl (fun H locs hP hD hS => ?_)
        obtain rfl := o1 h
        exact eX hx hb hr hlk hP hS dX5_addLand_77 (Nat.le_of_ble_eq_true rfl) (Nat.le_of_ble_eq_true rfl) rfl
      · have h := in_ h c_3
        obtain rfl := o1 h
        exact eT (text := "there are 6 lands") hx hb hfl hlk htb hT hown hP hS (hl.1.trans hml.symm) (hts (.classLink RX5 51 "java/lang/IllegalStateException") (List.mem_of_getElem? (i := 3) rfl)) (hts (.initialized "java/lang/IllegalStateException") (List.mem_of_getElem? (i := 4) rfl)) (List.mem_of_getElem? (i := 2) rfl) (List.mem_of_getElem? (i := 1) rfl) (fun w h => hts w ((fun _ h => List.mem_cons_of_mem _ (List.mem_append_left _ (List.mem_append_right _ (h)))) w h)) (by decide +kernel) (by decide +kernel) (by decide +kernel) dX5_addLand_55 dX5_addLand_58 dX5_addLand_59 dX5_addLand_61 dX5_addLand_64 (Nat.le_of_ble_eq_true rfl) (Nat.le_of_ble_eq_true rfl) (Nat.le_of_ble_eq_true rfl) (Nat.le_of_ble_eq_true rfl) (Nat.le_of_ble_eq_true rfl) (Nat.le_of_ble_eq_true rfl) rfl
    · have h := ip_ h c_2
      obtain rfl := o1 h
      exact eT (text := "weight is not 1 to 9") hx hb hfl hlk htb hT hown hP hS (hl.1.trans hml.symm) (hts (.classLink RX5 32 "java/lang/IllegalArgumentException") (List.mem_of_getElem? (i := 1) rfl)) (hts (.initialized "java/lang/IllegalArgumentException") (List.mem_of_getElem? (i := 2) rfl)) (List.mem_of_getElem? (i := 1) rfl) (List.mem_of_getElem? (i := 0) rfl) (fun w h => hts w ((fun _ h => List.mem_cons_of_mem _ (List.mem_append_left _ (List.mem_append_left _ (List.mem_append_right _ (h))))) w h)) (by decide +kernel) (by decide +kernel) (by decide +kernel) dX5_addLand_30 dX5_addLand_33 dX5_addLand_34 dX5_addLand_36 dX5_addLand_39 (Nat.le_of_ble_eq_true rfl) (Nat.le_of_ble_eq_true rfl) (Nat.le_of_ble_eq_true rfl) (Nat.le_of_ble_eq_true rfl) (Nat.le_of_ble_eq_true rfl) (Nat.le_of_ble_eq_true rfl) rfl
  · have h := ip_ h c_1
    obtain rfl := o1 h
    exact eT (text := "value is not 1 to 50") hx hb hfl hlk htb hT hown hP hS (hl.1.trans hml.symm) (hts (.classLink RX5 32 "java/lang/IllegalArgumentException") (List.mem_of_getElem? (i := 1) rfl)) (hts (.initialized "java/lang/IllegalArgumentException") (List.mem_of_getElem? (i := 2) rfl)) (List.mem_of_getElem? (i := 0) rfl) (List.mem_of_getElem? (i := 0) rfl) (fun w h => hts w ((fun _ h => List.mem_cons_of_mem _ (List.mem_append_left _ (List.mem_append_left _ (List.mem_append_right _ (h))))) w h)) (by decide +kernel) (by decide +kernel) (by decide +kernel) dX5_addLand_10 dX5_addLand_13 dX5_addLand_14 dX5_addLand_16 dX5_addLand_19 (Nat.le_of_ble_eq_true rfl) (Nat.le_of_ble_eq_true rfl) (Nat.le_of_ble_eq_true rfl) (Nat.le_of_ble_eq_true rfl) (Nat.le_of_ble_eq_true rfl) (Nat.le_of_ble_eq_true rfl) rfl
noncomputable def fX5_setTide (G : Nat → Nat → Int32) (p0 : Int32) (p1 : Int32) : Option (String ⊕ (Int32 × (Nat → Nat → Int32))) := if (fX5_within p0 0 6) = 0 then (some (.inl "java/lang/IndexOutOfBoundsException")) else (if (fX5_within p1 0 9) = 0 then (some (.inl "java/lang/IllegalArgumentException")) else (lt_ (rAt 7 (G 0) p0) (fun y3_3 => lt_ (uG G 0 (rPut 7 (G 0) p0 p1)) (fun G_4 => some (.inr (y3_3, G_4))))))
set_option maxHeartbeats 4000000 in
set_option maxRecDepth 100000 in
theorem c_X5_setTide (l : Launch) (hfl : l.stackTraces = false) (D : va_G) (cI cJ : ClassId) (a b x : Nat → Nat) (G : Nat → Nat → Int32) (g : Nat → Int32) (J : Nat → Nat → Int32) (j : Nat → Int32) (F : Nat → Int32) (p0 : Int32) (p1 : Int32) (z : String ⊕ (Int32 × (Nat → Nat → Int32))) (rs : va_W) (h : fX5_setTide G p0 p1 = some z) : Cx l yX5_setTide wsX5_setTide ({ frames := 6, cells := 1, slots := 6, locals := 82 } : Room) D cI cJ ([.ref (x 0), .int p0, .int p1] : List Value) (wl cI a G g ++ (wl cI b J j ++ (xr cI a b x F ++ rs))) (z.elim .inl (fun q => .inr (q.1, wl cI a q.2 g ++ (wl cI b J j ++ (xr cI a b x F ++ rs))))) := by
  refine Cx.mk (cc := cX5_setTide) (maxL := 4) (ret := (some .int)) (by decide) rfl (Nat.le_of_ble_eq_true rfl) ?_
  intro p e s m below meth c A ls B hr hlk htb hT hK hN hA hP hD hl
  obtain ⟨hx, hb, hml, hown, hts⟩ := id B
  have hi_X3 : ∀ w ∈ wsX30, w ∈ wsX5_setTide := fun _ h => List.mem_cons_of_mem _ (List.mem_append_left _ (List.mem_append_left _ (List.mem_append_left _ (List.mem_append_left _ (List.mem_append_right _ (h))))))
  have hi_X5 : ∀ w ∈ wsX50, w ∈ wsX5_setTide := fun _ h => List.mem_cons_of_mem _ (List.mem_append_left _ (List.mem_append_left _ (List.mem_append_left _ (List.mem_append_left _ (List.mem_append_left _ (List.mem_append_right _ (h)))))))
  have hS : va_S A s.heap s.heap [] := va_S.rf
  have hl : lv_has ls 4 [(0, .ref (x 0)), (1, .int p0), (2, .int p1)] := hl
  unfold fX5_setTide at h
  refine lv_iload_n hx hb dX5_setTide_0 rfl (lv_at hl 1 rfl) ?_
  refine lv_iconst (v := 0) hx hb dX5_setTide_1 (by decide) ?_
  refine lv_bipush (v := 6) hx hb dX5_setTide_2 (by decide) ?_
  refine kSi (As := [.int p0, .int 0, .int 6]) (rest := []) B hK hN hP hD hS hA (c_X5_within l D cI cJ  p0 0 6 (wl cI a G g ++ (wl cI b J j ++ (xr cI a b x F ++ rs))) _ rfl) (va_cwS 3 hts gX5_setTide_X5_within rfl rfl rfl (by decide +kernel) ⟨(Nat.le_of_ble_eq_true rfl), (Nat.le_of_ble_eq_true rfl)⟩) rfl hl.1 rfl (Nat.le_of_ble_eq_true rfl) dX5_setTide_4 ⟨(Nat.le_of_ble_eq_true rfl), (Nat.le_of_ble_eq_true rfl)⟩ rfl (fun H locs hP hD hS => ?_)
  refine lv_if_ne (tgt := 20) hx hb dX5_setTide_7 (by decide) (fun c_1 => ?_) (fun c_1 => ?_)
  · have h := in_ h c_1
    refine lv_iload_n hx hb dX5_setTide_20 rfl (lv_at hl 2 rfl) ?_
    refine lv_iconst (v := 0) hx hb dX5_setTide_21 (by decide) ?_
    refine lv_bipush (v := 9) hx hb dX5_setTide_22 (by decide) ?_
    refine kSi (As := [.int p1, .int 0, .int 9]) (rest := []) B hK hN hP hD hS hA (c_X5_within l D cI cJ  p1 0 9 (wl cI a G g ++ (wl cI b J j ++ (xr cI a b x F ++ rs))) _ rfl) (va_cwS 3 hts gX5_setTide_X5_within rfl rfl rfl (by decide +kernel) ⟨(Nat.le_of_ble_eq_true rfl), (Nat.le_of_ble_eq_true rfl)⟩) rfl hl.1 rfl (Nat.le_of_ble_eq_true rfl) dX5_setTide_24 ⟨(Nat.le_of_ble_eq_true rfl), (Nat.le_of_ble_eq_true rfl)⟩ rfl (fun H locs hP hD hS => ?_)
    refine lv_if_ne (tgt := 40) hx hb dX5_setTide_27 (by decide) (fun c_2 => ?_) (fun c_2 => ?_)
    · have h := in_ h c_2
      refine lv_aload_n hx hb dX5_setTide_40 rfl (lv_at hl 0 rfl) ?_
      refine va_get (ci := 8) (v := .ref (a 0)) (C := RX5) (T := TX5) (N := 3) hx hb hts hi_X5 hown hK hP 56 rfl rfl 0 (by decide) (hts (.fieldLink RX5 10 "WishWell" "well" "LWishWell$Well;") (List.mem_of_getElem? (i := 5) rfl)) (fun _ h9 => h9) rfl dX5_setTide_41 ?_
      refine va_get (ci := 6) (v := .ref (a 4)) (C := RX3) (T := TX3) (N := 9) hx hb hts hi_X3 hown hK hP 0 rfl rfl 3 (by decide) (hts (.fieldLink RX5 67 "WishWell$Well" "tide" "LWishWell$Row;") (List.mem_of_getElem? (i := 6) rfl)) (fun _ h9 => h9) rfl dX5_setTide_44 ?_
      refine lv_iload_n hx hb dX5_setTide_47 rfl (lv_at hl 1 rfl) ?_
      refine kVi (As := [.int p0]) (rest := []) B hK hN hP hD hS hA (c_X2_at l D cI cJ _ _ _ 7 (G 0) 4 16 rfl rfl (by decide) p0) (cwV 1 hts gX5_setTide_X2_at rfl rfl rfl (by decide +kernel) ⟨(Nat.le_of_ble_eq_true rfl), (Nat.le_of_ble_eq_true rfl)⟩) 5 4 rfl rfl rfl hl.1 rfl (Nat.le_of_ble_eq_true rfl) dX5_setTide_48 ⟨(Nat.le_of_ble_eq_true rfl), (Nat.le_of_ble_eq_true rfl)⟩ rfl (fun H locs hP hD hS => ?_)
      obtain ⟨y3_3, ey3_3, h⟩ := lt_I h
      rw [← ey3_3]
      refine lv_istore_n (lv' := [(3, .int y3_3), (0, .ref (x 0)), (1, .int p0), (2, .int p1)]) hx hb dX5_setTide_51 rfl hl (by decide) rfl (fun ls hl => ?_)
      refine lv_aload_n hx hb dX5_setTide_52 rfl (lv_at hl 1 rfl) ?_
      refine va_get (ci := 8) (v := .ref (a 0)) (C := RX5) (T := TX5) (N := 3) hx hb hts hi_X5 hown hK hP 56 rfl rfl 0 (by decide) (hts (.fieldLink RX5 10 "WishWell" "well" "LWishWell$Well;") (List.mem_of_getElem? (i := 5) rfl)) (fun _ h9 => h9) rfl dX5_setTide_53 ?_
      refine va_get (ci := 6) (v := .ref (a 4)) (C := RX3) (T := TX3) (N := 9) hx hb hts hi_X3 hown hK hP 0 rfl rfl 3 (by decide) (hts (.fieldLink RX5 67 "WishWell$Well" "tide" "LWishWell$Row;") (List.mem_of_getElem? (i := 6) rfl)) (fun _ h9 => h9) rfl dX5_setTide_56 ?_
      refine lv_iload_n hx hb dX5_setTide_59 rfl (lv_at hl 2 rfl) ?_
      refine lv_iload_n hx hb dX5_setTide_60 rfl (lv_at hl 3 rfl) ?_
      refine kVv (As := [.int p0, .int p1]) (rest := []) B hK hN hP hD hS hA (c_X2_put l D cI cJ _ (wl cI a (uG G 0 (rPut 7 (G 0) p0 p1)) g ++ (wl cI b J j ++ (xr cI a b x F ++ rs))) _ _ 7 (G 0) 4 16 rfl rfl (by decide) p0 p1 rfl rfl) (cwV 2 hts gX5_setTide_X2_put rfl rfl rfl (by decide +kernel) ⟨(Nat.le_of_ble_eq_true rfl), (Nat.le_of_ble_eq_true rfl)⟩) 5 4 rfl rfl rfl hl.1 rfl (Nat.le_of_ble_eq_true rfl) dX5_setTide_61 ⟨(Nat.le_of_ble_eq_true rfl), (Nat.le_of_ble_eq_true rfl)⟩ rfl (fun H locs hP hD hS => ?_)
      obtain ⟨G_4, eG_4, h⟩ := lt_I h
      have hP : va_P D vwCl (wl cI a G_4 g ++ (wl cI b J j ++ (xr cI a b x F ++ rs))) H := by rw [eG_4]; exact hP
      have hD : va_D A (wl cI a G_4 g ++ (wl cI b J j ++ (xr cI a b x F ++ rs))) := by rw [eG_4]; exact hD
      refine lv_iload_n hx hb dX5_setTide_64 rfl (lv_at hl 0 rfl) ?_
      obtain rfl := o1 h
      exact eX hx hb hr hlk hP hS dX5_setTide_65 (Nat.le_of_ble_eq_true rfl) (Nat.le_of_ble_eq_true rfl) rfl
    · have h := ip_ h c_2
      obtain rfl := o1 h
      exact eT (text := "many is not 0 to 9") hx hb hfl hlk htb hT hown hP hS (hl.1.trans hml.symm) (hts (.classLink RX5 32 "java/lang/IllegalArgumentException") (List.mem_of_getElem? (i := 3) rfl)) (hts (.initialized "java/lang/IllegalArgumentException") (List.mem_of_getElem? (i := 4) rfl)) (List.mem_of_getElem? (i := 4) rfl) (List.mem_of_getElem? (i := 0) rfl) (fun w h => hts w ((fun _ h => List.mem_cons_of_mem _ (List.mem_append_left _ (List.mem_append_right _ (h)))) w h)) (by decide +kernel) (by decide +kernel) (by decide +kernel) dX5_setTide_30 dX5_setTide_33 dX5_setTide_34 dX5_setTide_36 dX5_setTide_39 (Nat.le_of_ble_eq_true rfl) (Nat.le_of_ble_eq_true rfl) (Nat.le_of_ble_eq_true rfl) (Nat.le_of_ble_eq_true rfl) (Nat.le_of_ble_eq_true rfl) (Nat.le_of_ble_eq_true rfl) rfl
  · have h := ip_ h c_1
    obtain rfl := o1 h
    exact eT (text := "weekday is not 0 to 6") hx hb hfl hlk htb hT hown hP hS (hl.1.trans hml.symm) (hts (.classLink RX5 60 "java/lang/IndexOutOfBoundsException") (List.mem_of_getElem? (i := 1) rfl)) (hts (.initialized "java/lang/IndexOutOfBoundsException") (List.mem_of_getElem? (i := 2) rfl)) (List.mem_of_getElem? (i := 3) rfl) (List.mem_of_getElem? (i := 2) rfl) (fun w h => hts w ((fun _ h => List.mem_cons_of_mem _ (List.mem_append_left _ (List.mem_append_left _ (List.mem_append_right _ (h))))) w h)) (by decide +kernel) (by decide +kernel) (by decide +kernel) dX5_setTide_10 dX5_setTide_13 dX5_setTide_14 dX5_setTide_16 dX5_setTide_19 (Nat.le_of_ble_eq_true rfl) (Nat.le_of_ble_eq_true rfl) (Nat.le_of_ble_eq_true rfl) (Nat.le_of_ble_eq_true rfl) (Nat.le_of_ble_eq_true rfl) (Nat.le_of_ble_eq_true rfl) rfl
noncomputable def fX5_wish (G : Nat → Nat → Int32) (g : Nat → Int32) (p0 : Int32) (p1 : Int32) : Option (String ⊕ (Int32 × (Nat → Nat → Int32) × (Nat → Int32))) := if (fX0_has g p0) = 0 then (some (.inl "java/lang/IndexOutOfBoundsException")) else (if (fX5_within p1 0 3) = 0 then (some (.inl "java/lang/IllegalArgumentException")) else (if (g 6) < 24 then (b2 (fX3_throwCoin G g p0) (fun G_4 g_5 => b3 (fX4_tell G_4 g_5 p1 p0 (g_5 0)) (fun r_7 G_8 g_9 => some (.inr (r_7, G_8, g_9))))) else (some (.inl "java/lang/IllegalStateException"))))
set_option maxHeartbeats 4000000 in
set_option maxRecDepth 100000 in
theorem c_X5_wish (l : Launch) (hfl : l.stackTraces = false) (D : va_G) (cI cJ : ClassId) (a b x : Nat → Nat) (G : Nat → Nat → Int32) (g : Nat → Int32) (J : Nat → Nat → Int32) (j : Nat → Int32) (F : Nat → Int32) (p0 : Int32) (p1 : Int32) (z : String ⊕ (Int32 × (Nat → Nat → Int32) × (Nat → Int32))) (rs : va_W) (h : fX5_wish G g p0 p1 = some z) : Cx l yX5_wish wsX5_wish ({ frames := 6, cells := 1, slots := 6, locals := 82 } : Room) D cI cJ ([.ref (x 0), .int p0, .int p1] : List Value) (wl cI a G g ++ (wl cI b J j ++ (xr cI a b x F ++ rs))) (z.elim .inl (fun q => .inr (q.1, wl cI a q.2.1 q.2.2 ++ (wl cI b J j ++ (xr cI a b x F ++ rs))))) := by
  refine Cx.mk (cc := cX5_wish) (maxL := 3) (ret := (some .int)) (by decide) rfl (Nat.le_of_ble_eq_true rfl) ?_
  intro p e s m below meth c A ls B hr hlk htb hT hK hN hA hP hD hl
  obtain ⟨hx, hb, hml, hown, hts⟩ := id B
  have hi_X3 : ∀ w ∈ wsX30, w ∈ wsX5_wish := fun _ h => List.mem_cons_of_mem _ (List.mem_append_left _ (List.mem_append_left _ (List.mem_append_left _ (List.mem_append_left _ (List.mem_append_left _ (List.mem_append_left _ (List.mem_append_left _ (List.mem_append_left _ (List.mem_append_right _ (h))))))))))
  have hi_X4 : ∀ w ∈ wsX40, w ∈ wsX5_wish := fun _ h => List.mem_cons_of_mem _ (List.mem_append_left _ (List.mem_append_left _ (List.mem_append_left _ (List.mem_append_left _ (List.mem_append_left _ (List.mem_append_left _ (List.mem_append_left _ (List.mem_append_right _ (h)))))))))
  have hi_X5 : ∀ w ∈ wsX50, w ∈ wsX5_wish := fun _ h => List.mem_cons_of_mem _ (List.mem_append_left _ (List.mem_append_left _ (List.mem_append_left _ (List.mem_append_left _ (List.mem_append_left _ (List.mem_append_left _ (List.mem_append_left _ (List.mem_append_left _ (List.mem_append_left _ (List.mem_append_right _ (h)))))))))))
  have hS : va_S A s.heap s.heap [] := va_S.rf
  have hl : lv_has ls 3 [(0, .ref (x 0)), (1, .int p0), (2, .int p1)] := hl
  unfold fX5_wish at h
  refine lv_aload_n hx hb dX5_wish_0 rfl (lv_at hl 0 rfl) ?_
  refine va_get (ci := 8) (v := .ref (a 0)) (C := RX5) (T := TX5) (N := 3) hx hb hts hi_X5 hown hK hP 56 rfl rfl 0 (by decide) (hts (.fieldLink RX5 10 "WishWell" "well" "LWishWell$Well;") (List.mem_of_getElem? (i := 7) rfl)) (fun _ h9 => h9) rfl dX5_wish_1 ?_
  refine va_get (ci := 6) (v := .ref (a 1)) (C := RX3) (T := TX3) (N := 9) hx hb hts hi_X3 hown hK hP 0 rfl rfl 0 (by decide) (hts (.fieldLink RX5 41 "WishWell$Well" "lands" "LWishWell$Lands;") (List.mem_of_getElem? (i := 8) rfl)) (fun _ h9 => h9) rfl dX5_wish_4 ?_
  refine lv_iload_n hx hb dX5_wish_7 rfl (lv_at hl 1 rfl) ?_
  refine kVi (As := [.int p0]) (rest := []) B hK hN hP hD hS hA (c_X0_has l D cI cJ a G g p0 (wl cI b J j ++ (xr cI a b x F ++ rs)) _ rfl) (cwV 1 hts gX5_wish_X0_has rfl rfl rfl (by decide +kernel) ⟨(Nat.le_of_ble_eq_true rfl), (Nat.le_of_ble_eq_true rfl)⟩) 3 1 rfl rfl rfl hl.1 rfl (Nat.le_of_ble_eq_true rfl) dX5_wish_8 ⟨(Nat.le_of_ble_eq_true rfl), (Nat.le_of_ble_eq_true rfl)⟩ rfl (fun H locs hP hD hS => ?_)
  refine lv_if_ne (tgt := 24) hx hb dX5_wish_11 (by decide) (fun c_1 => ?_) (fun c_1 => ?_)
  · have h := in_ h c_1
    refine lv_iload_n hx hb dX5_wish_24 rfl (lv_at hl 2 rfl) ?_
    refine lv_iconst (v := 0) hx hb dX5_wish_25 (by decide) ?_
    refine lv_iconst (v := 3) hx hb dX5_wish_26 (by decide) ?_
    refine kSi (As := [.int p1, .int 0, .int 3]) (rest := []) B hK hN hP hD hS hA (c_X5_within l D cI cJ  p1 0 3 (wl cI a G g ++ (wl cI b J j ++ (xr cI a b x F ++ rs))) _ rfl) (va_cwS 3 hts gX5_wish_X5_within rfl rfl rfl (by decide +kernel) ⟨(Nat.le_of_ble_eq_true rfl), (Nat.le_of_ble_eq_true rfl)⟩) rfl hl.1 rfl (Nat.le_of_ble_eq_true rfl) dX5_wish_27 ⟨(Nat.le_of_ble_eq_true rfl), (Nat.le_of_ble_eq_true rfl)⟩ rfl (fun H locs hP hD hS => ?_)
    refine lv_if_ne (tgt := 43) hx hb dX5_wish_30 (by decide) (fun c_2 => ?_) (fun c_2 => ?_)
    · have h := in_ h c_2
      refine lv_aload_n hx hb dX5_wish_43 rfl (lv_at hl 0 rfl) ?_
      refine va_get (ci := 8) (v := .ref (a 0)) (C := RX5) (T := TX5) (N := 3) hx hb hts hi_X5 hown hK hP 56 rfl rfl 0 (by decide) (hts (.fieldLink RX5 10 "WishWell" "well" "LWishWell$Well;") (List.mem_of_getElem? (i := 7) rfl)) (fun _ h9 => h9) rfl dX5_wish_44 ?_
      refine va_get (ci := 6) (v := .ref (a 2)) (C := RX3) (T := TX3) (N := 9) hx hb hts hi_X3 hown hK hP 0 rfl rfl 1 (by decide) (hts (.fieldLink RX5 86 "WishWell$Well" "wishes" "LWishWell$Wishes;") (List.mem_of_getElem? (i := 9) rfl)) (fun _ h9 => h9) rfl dX5_wish_47 ?_
      refine va_get (ci := 7) (v := .int (g 6)) (C := RX4) (T := TX4) (N := 6) hx hb hts hi_X4 hown hK hP 2 rfl rfl 5 (by decide) (hts (.fieldLink RX5 90 "WishWell$Wishes" "size" "I") (List.mem_of_getElem? (i := 10) rfl)) (fun _ h9 => h9) rfl dX5_wish_50 ?_
      refine lv_bipush (v := 24) hx hb dX5_wish_53 (by decide) ?_
      refine lv_icmp_lt (tgt := 68) hx hb dX5_wish_55 (by decide) (fun c_3 => ?_) (fun c_3 => ?_)
      · have h := ip_ h c_3
        refine lv_aload_n hx hb dX5_wish_68 rfl (lv_at hl 0 rfl) ?_
        refine va_get (ci := 8) (v := .ref (a 0)) (C := RX5) (T := TX5) (N := 3) hx hb hts hi_X5 hown hK hP 56 rfl rfl 0 (by decide) (hts (.fieldLink RX5 10 "WishWell" "well" "LWishWell$Well;") (List.mem_of_getElem? (i := 7) rfl)) (fun _ h9 => h9) rfl dX5_wish_69 ?_
        refine lv_iload_n hx hb dX5_wish_72 rfl (lv_at hl 1 rfl) ?_
        obtain ⟨G_4, g_5, hx_6, h⟩ := b2_I h
        refine kVv (As := [.int p0]) (rest := []) B hK hN hP hD hS hA (c_X3_throwCoin l D cI cJ a G g p0 G_4 g_5 (wl cI b J j ++ (xr cI a b x F ++ rs)) hx_6) (cwV 1 hts gX5_wish_X3_throwCoin rfl rfl rfl (by decide +kernel) ⟨(Nat.le_of_ble_eq_true rfl), (Nat.le_of_ble_eq_true rfl)⟩) 6 0 rfl rfl rfl hl.1 rfl (Nat.le_of_ble_eq_true rfl) dX5_wish_73 ⟨(Nat.le_of_ble_eq_true rfl), (Nat.le_of_ble_eq_true rfl)⟩ rfl (fun H locs hP hD hS => ?_)
        refine lv_aload_n hx hb dX5_wish_76 rfl (lv_at hl 0 rfl) ?_
        refine va_get (ci := 8) (v := .ref (a 0)) (C := RX5) (T := TX5) (N := 3) hx hb hts hi_X5 hown hK hP 56 rfl rfl 0 (by decide) (hts (.fieldLink RX5 10 "WishWell" "well" "LWishWell$Well;") (List.mem_of_getElem? (i := 7) rfl)) (fun _ h9 => h9) rfl dX5_wish_77 ?_
        refine va_get (ci := 6) (v := .ref (a 2)) (C := RX3) (T := TX3) (N := 9) hx hb hts hi_X3 hown hK hP 0 rfl rfl 1 (by decide) (hts (.fieldLink RX5 86 "WishWell$Well" "wishes" "LWishWell$Wishes;") (List.mem_of_getElem? (i := 9) rfl)) (fun _ h9 => h9) rfl dX5_wish_80 ?_
        refine lv_iload_n hx hb dX5_wish_83 rfl (lv_at hl 2 rfl) ?_
        refine lv_iload_n hx hb dX5_wish_84 rfl (lv_at hl 1 rfl) ?_
        refine lv_aload_n hx hb dX5_wish_85 rfl (lv_at hl 0 rfl) ?_
        refine va_get (ci := 8) (v := .ref (a 0)) (C := RX5) (T := TX5) (N := 3) hx hb hts hi_X5 hown hK hP 56 rfl rfl 0 (by decide) (hts (.fieldLink RX5 10 "WishWell" "well" "LWishWell$Well;") (List.mem_of_getElem? (i := 7) rfl)) (fun _ h9 => h9) rfl dX5_wish_86 ?_
        refine va_get (ci := 6) (v := .int (g_5 0)) (C := RX3) (T := TX3) (N := 9) hx hb hts hi_X3 hown hK hP 0 rfl rfl 4 (by decide) (hts (.fieldLink RX5 98 "WishWell$Well" "day" "I") (List.mem_of_getElem? (i := 11) rfl)) (fun _ h9 => h9) rfl dX5_wish_89 ?_
        obtain ⟨r_7, G_8, g_9, hx_10, h⟩ := b3_I h
        refine kVi (As := [.int p1, .int p0, .int (g_5 0)]) (rest := []) B hK hN hP hD hS hA (c_X4_tell l D cI cJ a G_4 g_5 p1 p0 (g_5 0) r_7 G_8 g_9 (wl cI b J j ++ (xr cI a b x F ++ rs)) hx_10) (cwV 3 hts gX5_wish_X4_tell rfl rfl rfl (by decide +kernel) ⟨(Nat.le_of_ble_eq_true rfl), (Nat.le_of_ble_eq_true rfl)⟩) 7 2 rfl rfl rfl hl.1 rfl (Nat.le_of_ble_eq_true rfl) dX5_wish_92 ⟨(Nat.le_of_ble_eq_true rfl), (Nat.le_of_ble_eq_true rfl)⟩ rfl (fun H locs hP hD hS => ?_)
        obtain rfl := o1 h
        exact eX hx hb hr hlk hP hS dX5_wish_95 (Nat.le_of_ble_eq_true rfl) (Nat.le_of_ble_eq_true rfl) rfl
      · have h := in_ h c_3
        obtain rfl := o1 h
        exact eT (text := "there are 24 wishes") hx hb hfl hlk htb hT hown hP hS (hl.1.trans hml.symm) (hts (.classLink RX5 51 "java/lang/IllegalStateException") (List.mem_of_getElem? (i := 5) rfl)) (hts (.initialized "java/lang/IllegalStateException") (List.mem_of_getElem? (i := 6) rfl)) (List.mem_of_getElem? (i := 7) rfl) (List.mem_of_getElem? (i := 1) rfl) (fun w h => hts w ((fun _ h => List.mem_cons_of_mem _ (List.mem_append_left _ (List.mem_append_right _ (h)))) w h)) (by decide +kernel) (by decide +kernel) (by decide +kernel) dX5_wish_58 dX5_wish_61 dX5_wish_62 dX5_wish_64 dX5_wish_67 (Nat.le_of_ble_eq_true rfl) (Nat.le_of_ble_eq_true rfl) (Nat.le_of_ble_eq_true rfl) (Nat.le_of_ble_eq_true rfl) (Nat.le_of_ble_eq_true rfl) (Nat.le_of_ble_eq_true rfl) rfl
    · have h := ip_ h c_2
      obtain rfl := o1 h
      exact eT (text := "kind is not 0 to 3") hx hb hfl hlk htb hT hown hP hS (hl.1.trans hml.symm) (hts (.classLink RX5 32 "java/lang/IllegalArgumentException") (List.mem_of_getElem? (i := 3) rfl)) (hts (.initialized "java/lang/IllegalArgumentException") (List.mem_of_getElem? (i := 4) rfl)) (List.mem_of_getElem? (i := 6) rfl) (List.mem_of_getElem? (i := 0) rfl) (fun w h => hts w ((fun _ h => List.mem_cons_of_mem _ (List.mem_append_left _ (List.mem_append_left _ (List.mem_append_right _ (h))))) w h)) (by decide +kernel) (by decide +kernel) (by decide +kernel) dX5_wish_33 dX5_wish_36 dX5_wish_37 dX5_wish_39 dX5_wish_42 (Nat.le_of_ble_eq_true rfl) (Nat.le_of_ble_eq_true rfl) (Nat.le_of_ble_eq_true rfl) (Nat.le_of_ble_eq_true rfl) (Nat.le_of_ble_eq_true rfl) (Nat.le_of_ble_eq_true rfl) rfl
  · have h := ip_ h c_1
    obtain rfl := o1 h
    exact eT (text := "there is no such land") hx hb hfl hlk htb hT hown hP hS (hl.1.trans hml.symm) (hts (.classLink RX5 60 "java/lang/IndexOutOfBoundsException") (List.mem_of_getElem? (i := 1) rfl)) (hts (.initialized "java/lang/IndexOutOfBoundsException") (List.mem_of_getElem? (i := 2) rfl)) (List.mem_of_getElem? (i := 5) rfl) (List.mem_of_getElem? (i := 2) rfl) (fun w h => hts w ((fun _ h => List.mem_cons_of_mem _ (List.mem_append_left _ (List.mem_append_left _ (List.mem_append_left _ (List.mem_append_right _ (h)))))) w h)) (by decide +kernel) (by decide +kernel) (by decide +kernel) dX5_wish_14 dX5_wish_17 dX5_wish_18 dX5_wish_20 dX5_wish_23 (Nat.le_of_ble_eq_true rfl) (Nat.le_of_ble_eq_true rfl) (Nat.le_of_ble_eq_true rfl) (Nat.le_of_ble_eq_true rfl) (Nat.le_of_ble_eq_true rfl) (Nat.le_of_ble_eq_true rfl) rfl
noncomputable def fX5_withdraw (G : Nat → Nat → Int32) (g : Nat → Int32) (p0 : Int32) : Option (String ⊕ (Int32 × (Nat → Nat → Int32) × (Nat → Int32))) := if (fX4_has g p0) = 0 then (some (.inl "java/lang/IndexOutOfBoundsException")) else (if (rAt 24 (G 9) p0) = 0 then (b3 (fX3_withdrawWish G g p0) (fun r_3 G_4 g_5 => some (.inr (r_3, G_4, g_5)))) else (some (.inl "java/lang/IllegalStateException")))
set_option maxHeartbeats 4000000 in
set_option maxRecDepth 100000 in
theorem c_X5_withdraw (l : Launch) (hfl : l.stackTraces = false) (D : va_G) (cI cJ : ClassId) (a b x : Nat → Nat) (G : Nat → Nat → Int32) (g : Nat → Int32) (J : Nat → Nat → Int32) (j : Nat → Int32) (F : Nat → Int32) (p0 : Int32) (z : String ⊕ (Int32 × (Nat → Nat → Int32) × (Nat → Int32))) (rs : va_W) (h : fX5_withdraw G g p0 = some z) : Cx l yX5_withdraw wsX5_withdraw ({ frames := 6, cells := 1, slots := 6, locals := 89 } : Room) D cI cJ ([.ref (x 0), .int p0] : List Value) (wl cI a G g ++ (wl cI b J j ++ (xr cI a b x F ++ rs))) (z.elim .inl (fun q => .inr (q.1, wl cI a q.2.1 q.2.2 ++ (wl cI b J j ++ (xr cI a b x F ++ rs))))) := by
  refine Cx.mk (cc := cX5_withdraw) (maxL := 2) (ret := (some .int)) (by decide) rfl (Nat.le_of_ble_eq_true rfl) ?_
  intro p e s m below meth c A ls B hr hlk htb hT hK hN hA hP hD hl
  obtain ⟨hx, hb, hml, hown, hts⟩ := id B
  have hi_X3 : ∀ w ∈ wsX30, w ∈ wsX5_withdraw := fun _ h => List.mem_cons_of_mem _ (List.mem_append_left _ (List.mem_append_left _ (List.mem_append_left _ (List.mem_append_left _ (List.mem_append_left _ (List.mem_append_left _ (List.mem_append_left _ (List.mem_append_right _ (h)))))))))
  have hi_X4 : ∀ w ∈ wsX40, w ∈ wsX5_withdraw := fun _ h => List.mem_cons_of_mem _ (List.mem_append_left _ (List.mem_append_left _ (List.mem_append_left _ (List.mem_append_left _ (List.mem_append_left _ (List.mem_append_left _ (List.mem_append_right _ (h))))))))
  have hi_X5 : ∀ w ∈ wsX50, w ∈ wsX5_withdraw := fun _ h => List.mem_cons_of_mem _ (List.mem_append_left _ (List.mem_append_left _ (List.mem_append_left _ (List.mem_append_left _ (List.mem_append_left _ (List.mem_append_left _ (List.mem_append_left _ (List.mem_append_left _ (List.mem_append_right _ (h))))))))))
  have hS : va_S A s.heap s.heap [] := va_S.rf
  have hl : lv_has ls 2 [(0, .ref (x 0)), (1, .int p0)] := hl
  unfold fX5_withdraw at h
  refine lv_aload_n hx hb dX5_withdraw_0 rfl (lv_at hl 0 rfl) ?_
  refine va_get (ci := 8) (v := .ref (a 0)) (C := RX5) (T := TX5) (N := 3) hx hb hts hi_X5 hown hK hP 56 rfl rfl 0 (by decide) (hts (.fieldLink RX5 10 "WishWell" "well" "LWishWell$Well;") (List.mem_of_getElem? (i := 5) rfl)) (fun _ h9 => h9) rfl dX5_withdraw_1 ?_
  refine va_get (ci := 6) (v := .ref (a 2)) (C := RX3) (T := TX3) (N := 9) hx hb hts hi_X3 hown hK hP 0 rfl rfl 1 (by decide) (hts (.fieldLink RX5 86 "WishWell$Well" "wishes" "LWishWell$Wishes;") (List.mem_of_getElem? (i := 6) rfl)) (fun _ h9 => h9) rfl dX5_withdraw_4 ?_
  refine lv_iload_n hx hb dX5_withdraw_7 rfl (lv_at hl 1 rfl) ?_
  refine kVi (As := [.int p0]) (rest := []) B hK hN hP hD hS hA (c_X4_has l D cI cJ a G g p0 (wl cI b J j ++ (xr cI a b x F ++ rs)) _ rfl) (cwV 1 hts gX5_withdraw_X4_has rfl rfl rfl (by decide +kernel) ⟨(Nat.le_of_ble_eq_true rfl), (Nat.le_of_ble_eq_true rfl)⟩) 7 2 rfl rfl rfl hl.1 rfl (Nat.le_of_ble_eq_true rfl) dX5_withdraw_8 ⟨(Nat.le_of_ble_eq_true rfl), (Nat.le_of_ble_eq_true rfl)⟩ rfl (fun H locs hP hD hS => ?_)
  refine lv_if_ne (tgt := 24) hx hb dX5_withdraw_11 (by decide) (fun c_1 => ?_) (fun c_1 => ?_)
  · have h := in_ h c_1
    refine lv_aload_n hx hb dX5_withdraw_24 rfl (lv_at hl 0 rfl) ?_
    refine va_get (ci := 8) (v := .ref (a 0)) (C := RX5) (T := TX5) (N := 3) hx hb hts hi_X5 hown hK hP 56 rfl rfl 0 (by decide) (hts (.fieldLink RX5 10 "WishWell" "well" "LWishWell$Well;") (List.mem_of_getElem? (i := 5) rfl)) (fun _ h9 => h9) rfl dX5_withdraw_25 ?_
    refine va_get (ci := 6) (v := .ref (a 2)) (C := RX3) (T := TX3) (N := 9) hx hb hts hi_X3 hown hK hP 0 rfl rfl 1 (by decide) (hts (.fieldLink RX5 86 "WishWell$Well" "wishes" "LWishWell$Wishes;") (List.mem_of_getElem? (i := 6) rfl)) (fun _ h9 => h9) rfl dX5_withdraw_28 ?_
    refine va_get (ci := 7) (v := .ref (a 13)) (C := RX4) (T := TX4) (N := 6) hx hb hts hi_X4 hown hK hP 2 rfl rfl 3 (by decide) (hts (.fieldLink RX5 107 "WishWell$Wishes" "fates" "LWishWell$Row;") (List.mem_of_getElem? (i := 7) rfl)) (fun _ h9 => h9) rfl dX5_withdraw_31 ?_
    refine lv_iload_n hx hb dX5_withdraw_34 rfl (lv_at hl 1 rfl) ?_
    refine kVi (As := [.int p0]) (rest := []) B hK hN hP hD hS hA (c_X2_at l D cI cJ _ _ _ 24 (G 9) 13 25 rfl rfl (by decide) p0) (cwV 1 hts gX5_withdraw_X2_at rfl rfl rfl (by decide +kernel) ⟨(Nat.le_of_ble_eq_true rfl), (Nat.le_of_ble_eq_true rfl)⟩) 5 13 rfl rfl rfl hl.1 rfl (Nat.le_of_ble_eq_true rfl) dX5_withdraw_35 ⟨(Nat.le_of_ble_eq_true rfl), (Nat.le_of_ble_eq_true rfl)⟩ rfl (fun H locs hP hD hS => ?_)
    refine lv_if_eq (tgt := 51) hx hb dX5_withdraw_38 (by decide) (fun c_2 => ?_) (fun c_2 => ?_)
    · have h := ip_ h c_2
      refine lv_aload_n hx hb dX5_withdraw_51 rfl (lv_at hl 0 rfl) ?_
      refine va_get (ci := 8) (v := .ref (a 0)) (C := RX5) (T := TX5) (N := 3) hx hb hts hi_X5 hown hK hP 56 rfl rfl 0 (by decide) (hts (.fieldLink RX5 10 "WishWell" "well" "LWishWell$Well;") (List.mem_of_getElem? (i := 5) rfl)) (fun _ h9 => h9) rfl dX5_withdraw_52 ?_
      refine lv_iload_n hx hb dX5_withdraw_55 rfl (lv_at hl 1 rfl) ?_
      obtain ⟨r_3, G_4, g_5, hx_6, h⟩ := b3_I h
      refine kVi (As := [.int p0]) (rest := []) B hK hN hP hD hS hA (c_X3_withdrawWish l D cI cJ a G g p0 r_3 G_4 g_5 (wl cI b J j ++ (xr cI a b x F ++ rs)) hx_6) (cwV 1 hts gX5_withdraw_X3_withdrawWish rfl rfl rfl (by decide +kernel) ⟨(Nat.le_of_ble_eq_true rfl), (Nat.le_of_ble_eq_true rfl)⟩) 6 0 rfl rfl rfl hl.1 rfl (Nat.le_of_ble_eq_true rfl) dX5_withdraw_56 ⟨(Nat.le_of_ble_eq_true rfl), (Nat.le_of_ble_eq_true rfl)⟩ rfl (fun H locs hP hD hS => ?_)
      obtain rfl := o1 h
      exact eX hx hb hr hlk hP hS dX5_withdraw_59 (Nat.le_of_ble_eq_true rfl) (Nat.le_of_ble_eq_true rfl) rfl
    · have h := in_ h c_2
      obtain rfl := o1 h
      exact eT (text := "the wish does not wait") hx hb hfl hlk htb hT hown hP hS (hl.1.trans hml.symm) (hts (.classLink RX5 51 "java/lang/IllegalStateException") (List.mem_of_getElem? (i := 3) rfl)) (hts (.initialized "java/lang/IllegalStateException") (List.mem_of_getElem? (i := 4) rfl)) (List.mem_of_getElem? (i := 9) rfl) (List.mem_of_getElem? (i := 1) rfl) (fun w h => hts w ((fun _ h => List.mem_cons_of_mem _ (List.mem_append_left _ (List.mem_append_right _ (h)))) w h)) (by decide +kernel) (by decide +kernel) (by decide +kernel) dX5_withdraw_41 dX5_withdraw_44 dX5_withdraw_45 dX5_withdraw_47 dX5_withdraw_50 (Nat.le_of_ble_eq_true rfl) (Nat.le_of_ble_eq_true rfl) (Nat.le_of_ble_eq_true rfl) (Nat.le_of_ble_eq_true rfl) (Nat.le_of_ble_eq_true rfl) (Nat.le_of_ble_eq_true rfl) rfl
  · have h := ip_ h c_1
    obtain rfl := o1 h
    exact eT (text := "there is no such wish") hx hb hfl hlk htb hT hown hP hS (hl.1.trans hml.symm) (hts (.classLink RX5 60 "java/lang/IndexOutOfBoundsException") (List.mem_of_getElem? (i := 1) rfl)) (hts (.initialized "java/lang/IndexOutOfBoundsException") (List.mem_of_getElem? (i := 2) rfl)) (List.mem_of_getElem? (i := 8) rfl) (List.mem_of_getElem? (i := 2) rfl) (fun w h => hts w ((fun _ h => List.mem_cons_of_mem _ (List.mem_append_left _ (List.mem_append_left _ (List.mem_append_right _ (h))))) w h)) (by decide +kernel) (by decide +kernel) (by decide +kernel) dX5_withdraw_14 dX5_withdraw_17 dX5_withdraw_18 dX5_withdraw_20 dX5_withdraw_23 (Nat.le_of_ble_eq_true rfl) (Nat.le_of_ble_eq_true rfl) (Nat.le_of_ble_eq_true rfl) (Nat.le_of_ble_eq_true rfl) (Nat.le_of_ble_eq_true rfl) (Nat.le_of_ble_eq_true rfl) rfl
noncomputable def fX5_fish (G : Nat → Nat → Int32) (g : Nat → Int32) (p0 : Int32) (p1 : Int32) : Option (String ⊕ (Int32 × (Nat → Nat → Int32) × (Nat → Int32))) := if (fX5_within p0 0 4) = 0 then (some (.inl "java/lang/IndexOutOfBoundsException")) else (if (fX5_within p1 1 20) = 0 then (some (.inl "java/lang/IllegalArgumentException")) else (b3 (fX3_fishCoins G g p0 p1) (fun r_3 G_4 g_5 => some (.inr (r_3, G_4, g_5)))))
set_option maxHeartbeats 4000000 in
set_option maxRecDepth 100000 in
theorem c_X5_fish (l : Launch) (hfl : l.stackTraces = false) (D : va_G) (cI cJ : ClassId) (a b x : Nat → Nat) (G : Nat → Nat → Int32) (g : Nat → Int32) (J : Nat → Nat → Int32) (j : Nat → Int32) (F : Nat → Int32) (p0 : Int32) (p1 : Int32) (z : String ⊕ (Int32 × (Nat → Nat → Int32) × (Nat → Int32))) (rs : va_W) (h : fX5_fish G g p0 p1 = some z) : Cx l yX5_fish wsX5_fish ({ frames := 6, cells := 1, slots := 6, locals := 93 } : Room) D cI cJ ([.ref (x 0), .int p0, .int p1] : List Value) (wl cI a G g ++ (wl cI b J j ++ (xr cI a b x F ++ rs))) (z.elim .inl (fun q => .inr (q.1, wl cI a q.2.1 q.2.2 ++ (wl cI b J j ++ (xr cI a b x F ++ rs))))) := by
  refine Cx.mk (cc := cX5_fish) (maxL := 3) (ret := (some .int)) (by decide) rfl (Nat.le_of_ble_eq_true rfl) ?_
  intro p e s m below meth c A ls B hr hlk htb hT hK hN hA hP hD hl
  obtain ⟨hx, hb, hml, hown, hts⟩ := id B
  have hi_X5 : ∀ w ∈ wsX50, w ∈ wsX5_fish := fun _ h => List.mem_cons_of_mem _ (List.mem_append_left _ (List.mem_append_left _ (List.mem_append_left _ (List.mem_append_left _ (List.mem_append_left _ (List.mem_append_left _ (List.mem_append_left _ (List.mem_append_right _ (h)))))))))
  have hS : va_S A s.heap s.heap [] := va_S.rf
  have hl : lv_has ls 3 [(0, .ref (x 0)), (1, .int p0), (2, .int p1)] := hl
  unfold fX5_fish at h
  refine lv_iload_n hx hb dX5_fish_0 rfl (lv_at hl 1 rfl) ?_
  refine lv_iconst (v := 0) hx hb dX5_fish_1 (by decide) ?_
  refine lv_iconst (v := 4) hx hb dX5_fish_2 (by decide) ?_
  refine kSi (As := [.int p0, .int 0, .int 4]) (rest := []) B hK hN hP hD hS hA (c_X5_within l D cI cJ  p0 0 4 (wl cI a G g ++ (wl cI b J j ++ (xr cI a b x F ++ rs))) _ rfl) (va_cwS 3 hts gX5_fish_X5_within rfl rfl rfl (by decide +kernel) ⟨(Nat.le_of_ble_eq_true rfl), (Nat.le_of_ble_eq_true rfl)⟩) rfl hl.1 rfl (Nat.le_of_ble_eq_true rfl) dX5_fish_3 ⟨(Nat.le_of_ble_eq_true rfl), (Nat.le_of_ble_eq_true rfl)⟩ rfl (fun H locs hP hD hS => ?_)
  refine lv_if_ne (tgt := 19) hx hb dX5_fish_6 (by decide) (fun c_1 => ?_) (fun c_1 => ?_)
  · have h := in_ h c_1
    refine lv_iload_n hx hb dX5_fish_19 rfl (lv_at hl 2 rfl) ?_
    refine lv_iconst (v := 1) hx hb dX5_fish_20 (by decide) ?_
    refine lv_bipush (v := 20) hx hb dX5_fish_21 (by decide) ?_
    refine kSi (As := [.int p1, .int 1, .int 20]) (rest := []) B hK hN hP hD hS hA (c_X5_within l D cI cJ  p1 1 20 (wl cI a G g ++ (wl cI b J j ++ (xr cI a b x F ++ rs))) _ rfl) (va_cwS 3 hts gX5_fish_X5_within rfl rfl rfl (by decide +kernel) ⟨(Nat.le_of_ble_eq_true rfl), (Nat.le_of_ble_eq_true rfl)⟩) rfl hl.1 rfl (Nat.le_of_ble_eq_true rfl) dX5_fish_23 ⟨(Nat.le_of_ble_eq_true rfl), (Nat.le_of_ble_eq_true rfl)⟩ rfl (fun H locs hP hD hS => ?_)
    refine lv_if_ne (tgt := 39) hx hb dX5_fish_26 (by decide) (fun c_2 => ?_) (fun c_2 => ?_)
    · have h := in_ h c_2
      refine lv_aload_n hx hb dX5_fish_39 rfl (lv_at hl 0 rfl) ?_
      refine va_get (ci := 8) (v := .ref (a 0)) (C := RX5) (T := TX5) (N := 3) hx hb hts hi_X5 hown hK hP 56 rfl rfl 0 (by decide) (hts (.fieldLink RX5 10 "WishWell" "well" "LWishWell$Well;") (List.mem_of_getElem? (i := 5) rfl)) (fun _ h9 => h9) rfl dX5_fish_40 ?_
      refine lv_iload_n hx hb dX5_fish_43 rfl (lv_at hl 1 rfl) ?_
      refine lv_iload_n hx hb dX5_fish_44 rfl (lv_at hl 2 rfl) ?_
      obtain ⟨r_3, G_4, g_5, hx_6, h⟩ := b3_I h
      refine kVi (As := [.int p0, .int p1]) (rest := []) B hK hN hP hD hS hA (c_X3_fishCoins l D cI cJ a G g p0 p1 r_3 G_4 g_5 (wl cI b J j ++ (xr cI a b x F ++ rs)) hx_6) (cwV 2 hts gX5_fish_X3_fishCoins rfl rfl rfl (by decide +kernel) ⟨(Nat.le_of_ble_eq_true rfl), (Nat.le_of_ble_eq_true rfl)⟩) 6 0 rfl rfl rfl hl.1 rfl (Nat.le_of_ble_eq_true rfl) dX5_fish_45 ⟨(Nat.le_of_ble_eq_true rfl), (Nat.le_of_ble_eq_true rfl)⟩ rfl (fun H locs hP hD hS => ?_)
      obtain rfl := o1 h
      exact eX hx hb hr hlk hP hS dX5_fish_48 (Nat.le_of_ble_eq_true rfl) (Nat.le_of_ble_eq_true rfl) rfl
    · have h := ip_ h c_2
      obtain rfl := o1 h
      exact eT (text := "many is not 1 to 20") hx hb hfl hlk htb hT hown hP hS (hl.1.trans hml.symm) (hts (.classLink RX5 32 "java/lang/IllegalArgumentException") (List.mem_of_getElem? (i := 3) rfl)) (hts (.initialized "java/lang/IllegalArgumentException") (List.mem_of_getElem? (i := 4) rfl)) (List.mem_of_getElem? (i := 11) rfl) (List.mem_of_getElem? (i := 0) rfl) (fun w h => hts w ((fun _ h => List.mem_cons_of_mem _ (List.mem_append_left _ (List.mem_append_right _ (h)))) w h)) (by decide +kernel) (by decide +kernel) (by decide +kernel) dX5_fish_29 dX5_fish_32 dX5_fish_33 dX5_fish_35 dX5_fish_38 (Nat.le_of_ble_eq_true rfl) (Nat.le_of_ble_eq_true rfl) (Nat.le_of_ble_eq_true rfl) (Nat.le_of_ble_eq_true rfl) (Nat.le_of_ble_eq_true rfl) (Nat.le_of_ble_eq_true rfl) rfl
  · have h := ip_ h c_1
    obtain rfl := o1 h
    exact eT (text := "layer is not 0 to 4") hx hb hfl hlk htb hT hown hP hS (hl.1.trans hml.symm) (hts (.classLink RX5 60 "java/lang/IndexOutOfBoundsException") (List.mem_of_getElem? (i := 1) rfl)) (hts (.initialized "java/lang/IndexOutOfBoundsException") (List.mem_of_getElem? (i := 2) rfl)) (List.mem_of_getElem? (i := 10) rfl) (List.mem_of_getElem? (i := 2) rfl) (fun w h => hts w ((fun _ h => List.mem_cons_of_mem _ (List.mem_append_left _ (List.mem_append_left _ (List.mem_append_right _ (h))))) w h)) (by decide +kernel) (by decide +kernel) (by decide +kernel) dX5_fish_9 dX5_fish_12 dX5_fish_13 dX5_fish_15 dX5_fish_18 (Nat.le_of_ble_eq_true rfl) (Nat.le_of_ble_eq_true rfl) (Nat.le_of_ble_eq_true rfl) (Nat.le_of_ble_eq_true rfl) (Nat.le_of_ble_eq_true rfl) (Nat.le_of_ble_eq_true rfl) rfl
noncomputable def fX5_audit (G : Nat → Nat → Int32) (g : Nat → Int32) (p0 : Int32) : Option (String ⊕ (Int32 × (Nat → Nat → Int32) × (Nat → Int32))) := if (fX5_within p0 0 4) = 0 then (some (.inl "java/lang/IndexOutOfBoundsException")) else (b3 (fX3_auditLayer G g p0) (fun r_2 G_3 g_4 => some (.inr (r_2, G_3, g_4))))
set_option maxHeartbeats 4000000 in
set_option maxRecDepth 100000 in
theorem c_X5_audit (l : Launch) (hfl : l.stackTraces = false) (D : va_G) (cI cJ : ClassId) (a b x : Nat → Nat) (G : Nat → Nat → Int32) (g : Nat → Int32) (J : Nat → Nat → Int32) (j : Nat → Int32) (F : Nat → Int32) (p0 : Int32) (z : String ⊕ (Int32 × (Nat → Nat → Int32) × (Nat → Int32))) (rs : va_W) (h : fX5_audit G g p0 = some z) : Cx l yX5_audit wsX5_audit ({ frames := 6, cells := 1, slots := 6, locals := 91 } : Room) D cI cJ ([.ref (x 0), .int p0] : List Value) (wl cI a G g ++ (wl cI b J j ++ (xr cI a b x F ++ rs))) (z.elim .inl (fun q => .inr (q.1, wl cI a q.2.1 q.2.2 ++ (wl cI b J j ++ (xr cI a b x F ++ rs))))) := by
  refine Cx.mk (cc := cX5_audit) (maxL := 2) (ret := (some .int)) (by decide) rfl (Nat.le_of_ble_eq_true rfl) ?_
  intro p e s m below meth c A ls B hr hlk htb hT hK hN hA hP hD hl
  obtain ⟨hx, hb, hml, hown, hts⟩ := id B
  have hi_X5 : ∀ w ∈ wsX50, w ∈ wsX5_audit := fun _ h => List.mem_cons_of_mem _ (List.mem_append_left _ (List.mem_append_left _ (List.mem_append_left _ (List.mem_append_left _ (List.mem_append_left _ (List.mem_append_left _ (List.mem_append_right _ (h))))))))
  have hS : va_S A s.heap s.heap [] := va_S.rf
  have hl : lv_has ls 2 [(0, .ref (x 0)), (1, .int p0)] := hl
  unfold fX5_audit at h
  refine lv_iload_n hx hb dX5_audit_0 rfl (lv_at hl 1 rfl) ?_
  refine lv_iconst (v := 0) hx hb dX5_audit_1 (by decide) ?_
  refine lv_iconst (v := 4) hx hb dX5_audit_2 (by decide) ?_
  refine kSi (As := [.int p0, .int 0, .int 4]) (rest := []) B hK hN hP hD hS hA (c_X5_within l D cI cJ  p0 0 4 (wl cI a G g ++ (wl cI b J j ++ (xr cI a b x F ++ rs))) _ rfl) (va_cwS 3 hts gX5_audit_X5_within rfl rfl rfl (by decide +kernel) ⟨(Nat.le_of_ble_eq_true rfl), (Nat.le_of_ble_eq_true rfl)⟩) rfl hl.1 rfl (Nat.le_of_ble_eq_true rfl) dX5_audit_3 ⟨(Nat.le_of_ble_eq_true rfl), (Nat.le_of_ble_eq_true rfl)⟩ rfl (fun H locs hP hD hS => ?_)
  refine lv_if_ne (tgt := 19) hx hb dX5_audit_6 (by decide) (fun c_1 => ?_) (fun c_1 => ?_)
  · have h := in_ h c_1
    refine lv_aload_n hx hb dX5_audit_19 rfl (lv_at hl 0 rfl) ?_
    refine va_get (ci := 8) (v := .ref (a 0)) (C := RX5) (T := TX5) (N := 3) hx hb hts hi_X5 hown hK hP 56 rfl rfl 0 (by decide) (hts (.fieldLink RX5 10 "WishWell" "well" "LWishWell$Well;") (List.mem_of_getElem? (i := 3) rfl)) (fun _ h9 => h9) rfl dX5_audit_20 ?_
    refine lv_iload_n hx hb dX5_audit_23 rfl (lv_at hl 1 rfl) ?_
    obtain ⟨r_2, G_3, g_4, hx_5, h⟩ := b3_I h
    refine kVi (As := [.int p0]) (rest := []) B hK hN hP hD hS hA (c_X3_auditLayer l D cI cJ a G g p0 r_2 G_3 g_4 (wl cI b J j ++ (xr cI a b x F ++ rs)) hx_5) (cwV 1 hts gX5_audit_X3_auditLayer rfl rfl rfl (by decide +kernel) ⟨(Nat.le_of_ble_eq_true rfl), (Nat.le_of_ble_eq_true rfl)⟩) 6 0 rfl rfl rfl hl.1 rfl (Nat.le_of_ble_eq_true rfl) dX5_audit_24 ⟨(Nat.le_of_ble_eq_true rfl), (Nat.le_of_ble_eq_true rfl)⟩ rfl (fun H locs hP hD hS => ?_)
    obtain rfl := o1 h
    exact eX hx hb hr hlk hP hS dX5_audit_27 (Nat.le_of_ble_eq_true rfl) (Nat.le_of_ble_eq_true rfl) rfl
  · have h := ip_ h c_1
    obtain rfl := o1 h
    exact eT (text := "layer is not 0 to 4") hx hb hfl hlk htb hT hown hP hS (hl.1.trans hml.symm) (hts (.classLink RX5 60 "java/lang/IndexOutOfBoundsException") (List.mem_of_getElem? (i := 1) rfl)) (hts (.initialized "java/lang/IndexOutOfBoundsException") (List.mem_of_getElem? (i := 2) rfl)) (List.mem_of_getElem? (i := 10) rfl) (List.mem_of_getElem? (i := 2) rfl) (fun w h => hts w ((fun _ h => List.mem_cons_of_mem _ (List.mem_append_left _ (List.mem_append_right _ (h)))) w h)) (by decide +kernel) (by decide +kernel) (by decide +kernel) dX5_audit_9 dX5_audit_12 dX5_audit_13 dX5_audit_15 dX5_audit_18 (Nat.le_of_ble_eq_true rfl) (Nat.le_of_ble_eq_true rfl) (Nat.le_of_ble_eq_true rfl) (Nat.le_of_ble_eq_true rfl) (Nat.le_of_ble_eq_true rfl) (Nat.le_of_ble_eq_true rfl) rfl
noncomputable def fX5_missing (G : Nat → Nat → Int32) (g : Nat → Int32) (p0 : Int32) : Option (String ⊕ (Int32)) := if (fX0_has g p0) = 0 then (some (.inl "java/lang/IndexOutOfBoundsException")) else (Option.bind (fX3_missingCoins G p0) (fun r_2 => some (.inr r_2)))
set_option maxHeartbeats 4000000 in
set_option maxRecDepth 100000 in
theorem c_X5_missing (l : Launch) (hfl : l.stackTraces = false) (D : va_G) (cI cJ : ClassId) (a b x : Nat → Nat) (G : Nat → Nat → Int32) (g : Nat → Int32) (J : Nat → Nat → Int32) (j : Nat → Int32) (F : Nat → Int32) (p0 : Int32) (z : String ⊕ (Int32)) (rs : va_W) (h : fX5_missing G g p0 = some z) : Cx l yX5_missing wsX5_missing ({ frames := 6, cells := 1, slots := 6, locals := 88 } : Room) D cI cJ ([.ref (x 0), .int p0] : List Value) (wl cI a G g ++ (wl cI b J j ++ (xr cI a b x F ++ rs))) (z.elim .inl (fun q => .inr (q, wl cI a G g ++ (wl cI b J j ++ (xr cI a b x F ++ rs))))) := by
  refine Cx.mk (cc := cX5_missing) (maxL := 2) (ret := (some .int)) (by decide) rfl (Nat.le_of_ble_eq_true rfl) ?_
  intro p e s m below meth c A ls B hr hlk htb hT hK hN hA hP hD hl
  obtain ⟨hx, hb, hml, hown, hts⟩ := id B
  have hi_X3 : ∀ w ∈ wsX30, w ∈ wsX5_missing := fun _ h => List.mem_cons_of_mem _ (List.mem_append_left _ (List.mem_append_left _ (List.mem_append_left _ (List.mem_append_left _ (List.mem_append_left _ (List.mem_append_right _ (h)))))))
  have hi_X5 : ∀ w ∈ wsX50, w ∈ wsX5_missing := fun _ h => List.mem_cons_of_mem _ (List.mem_append_left _ (List.mem_append_left _ (List.mem_append_left _ (List.mem_append_left _ (List.mem_append_left _ (List.mem_append_left _ (List.mem_append_right _ (h))))))))
  have hS : va_S A s.heap s.heap [] := va_S.rf
  have hl : lv_has ls 2 [(0, .ref (x 0)), (1, .int p0)] := hl
  unfold fX5_missing at h
  refine lv_aload_n hx hb dX5_missing_0 rfl (lv_at hl 0 rfl) ?_
  refine va_get (ci := 8) (v := .ref (a 0)) (C := RX5) (T := TX5) (N := 3) hx hb hts hi_X5 hown hK hP 56 rfl rfl 0 (by decide) (hts (.fieldLink RX5 10 "WishWell" "well" "LWishWell$Well;") (List.mem_of_getElem? (i := 3) rfl)) (fun _ h9 => h9) rfl dX5_missing_1 ?_
  refine va_get (ci := 6) (v := .ref (a 1)) (C := RX3) (T := TX3) (N := 9) hx hb hts hi_X3 hown hK hP 0 rfl rfl 0 (by decide) (hts (.fieldLink RX5 41 "WishWell$Well" "lands" "LWishWell$Lands;") (List.mem_of_getElem? (i := 4) rfl)) (fun _ h9 => h9) rfl dX5_missing_4 ?_
  refine lv_iload_n hx hb dX5_missing_7 rfl (lv_at hl 1 rfl) ?_
  refine kVi (As := [.int p0]) (rest := []) B hK hN hP hD hS hA (c_X0_has l D cI cJ a G g p0 (wl cI b J j ++ (xr cI a b x F ++ rs)) _ rfl) (cwV 1 hts gX5_missing_X0_has rfl rfl rfl (by decide +kernel) ⟨(Nat.le_of_ble_eq_true rfl), (Nat.le_of_ble_eq_true rfl)⟩) 3 1 rfl rfl rfl hl.1 rfl (Nat.le_of_ble_eq_true rfl) dX5_missing_8 ⟨(Nat.le_of_ble_eq_true rfl), (Nat.le_of_ble_eq_true rfl)⟩ rfl (fun H locs hP hD hS => ?_)
  refine lv_if_ne (tgt := 24) hx hb dX5_missing_11 (by decide) (fun c_1 => ?_) (fun c_1 => ?_)
  · have h := in_ h c_1
    refine lv_aload_n hx hb dX5_missing_24 rfl (lv_at hl 0 rfl) ?_
    refine va_get (ci := 8) (v := .ref (a 0)) (C := RX5) (T := TX5) (N := 3) hx hb hts hi_X5 hown hK hP 56 rfl rfl 0 (by decide) (hts (.fieldLink RX5 10 "WishWell" "well" "LWishWell$Well;") (List.mem_of_getElem? (i := 3) rfl)) (fun _ h9 => h9) rfl dX5_missing_25 ?_
    refine lv_iload_n hx hb dX5_missing_28 rfl (lv_at hl 1 rfl) ?_
    obtain ⟨r_2, hx_3, h⟩ := bd_I h
    refine kVi (As := [.int p0]) (rest := []) B hK hN hP hD hS hA (c_X3_missingCoins l D cI cJ a G g p0 r_2 (wl cI b J j ++ (xr cI a b x F ++ rs)) hx_3) (cwV 1 hts gX5_missing_X3_missingCoins rfl rfl rfl (by decide +kernel) ⟨(Nat.le_of_ble_eq_true rfl), (Nat.le_of_ble_eq_true rfl)⟩) 6 0 rfl rfl rfl hl.1 rfl (Nat.le_of_ble_eq_true rfl) dX5_missing_29 ⟨(Nat.le_of_ble_eq_true rfl), (Nat.le_of_ble_eq_true rfl)⟩ rfl (fun H locs hP hD hS => ?_)
    obtain rfl := o1 h
    exact eX hx hb hr hlk hP hS dX5_missing_32 (Nat.le_of_ble_eq_true rfl) (Nat.le_of_ble_eq_true rfl) rfl
  · have h := ip_ h c_1
    obtain rfl := o1 h
    exact eT (text := "there is no such land") hx hb hfl hlk htb hT hown hP hS (hl.1.trans hml.symm) (hts (.classLink RX5 60 "java/lang/IndexOutOfBoundsException") (List.mem_of_getElem? (i := 1) rfl)) (hts (.initialized "java/lang/IndexOutOfBoundsException") (List.mem_of_getElem? (i := 2) rfl)) (List.mem_of_getElem? (i := 5) rfl) (List.mem_of_getElem? (i := 2) rfl) (fun w h => hts w ((fun _ h => List.mem_cons_of_mem _ (List.mem_append_left _ (List.mem_append_right _ (h)))) w h)) (by decide +kernel) (by decide +kernel) (by decide +kernel) dX5_missing_14 dX5_missing_17 dX5_missing_18 dX5_missing_20 dX5_missing_23 (Nat.le_of_ble_eq_true rfl) (Nat.le_of_ble_eq_true rfl) (Nat.le_of_ble_eq_true rfl) (Nat.le_of_ble_eq_true rfl) (Nat.le_of_ble_eq_true rfl) (Nat.le_of_ble_eq_true rfl) rfl
noncomputable def fX5_land (G : Nat → Nat → Int32) (g : Nat → Int32) (p0 : Int32) (p1 : Int32) : Option (String ⊕ (Int32)) := if (fX0_has g p0) = 0 then (some (.inl "java/lang/IndexOutOfBoundsException")) else (if (fX5_within p1 0 4) = 0 then (some (.inl "java/lang/IndexOutOfBoundsException")) else (Option.bind (fX3_landFigure G p0 p1) (fun r_3 => some (.inr r_3))))
set_option maxHeartbeats 4000000 in
set_option maxRecDepth 100000 in
theorem c_X5_land (l : Launch) (hfl : l.stackTraces = false) (D : va_G) (cI cJ : ClassId) (a b x : Nat → Nat) (G : Nat → Nat → Int32) (g : Nat → Int32) (J : Nat → Nat → Int32) (j : Nat → Int32) (F : Nat → Int32) (p0 : Int32) (p1 : Int32) (z : String ⊕ (Int32)) (rs : va_W) (h : fX5_land G g p0 p1 = some z) : Cx l yX5_land wsX5_land ({ frames := 6, cells := 1, slots := 6, locals := 89 } : Room) D cI cJ ([.ref (x 0), .int p0, .int p1] : List Value) (wl cI a G g ++ (wl cI b J j ++ (xr cI a b x F ++ rs))) (z.elim .inl (fun q => .inr (q, wl cI a G g ++ (wl cI b J j ++ (xr cI a b x F ++ rs))))) := by
  refine Cx.mk (cc := cX5_land) (maxL := 3) (ret := (some .int)) (by decide) rfl (Nat.le_of_ble_eq_true rfl) ?_
  intro p e s m below meth c A ls B hr hlk htb hT hK hN hA hP hD hl
  obtain ⟨hx, hb, hml, hown, hts⟩ := id B
  have hi_X3 : ∀ w ∈ wsX30, w ∈ wsX5_land := fun _ h => List.mem_cons_of_mem _ (List.mem_append_left _ (List.mem_append_left _ (List.mem_append_left _ (List.mem_append_left _ (List.mem_append_left _ (List.mem_append_right _ (h)))))))
  have hi_X5 : ∀ w ∈ wsX50, w ∈ wsX5_land := fun _ h => List.mem_cons_of_mem _ (List.mem_append_left _ (List.mem_append_left _ (List.mem_append_left _ (List.mem_append_left _ (List.mem_append_left _ (List.mem_append_left _ (List.mem_append_right _ (h))))))))
  have hS : va_S A s.heap s.heap [] := va_S.rf
  have hl : lv_has ls 3 [(0, .ref (x 0)), (1, .int p0), (2, .int p1)] := hl
  unfold fX5_land at h
  refine lv_aload_n hx hb dX5_land_0 rfl (lv_at hl 0 rfl) ?_
  refine va_get (ci := 8) (v := .ref (a 0)) (C := RX5) (T := TX5) (N := 3) hx hb hts hi_X5 hown hK hP 56 rfl rfl 0 (by decide) (hts (.fieldLink RX5 10 "WishWell" "well" "LWishWell$Well;") (List.mem_of_getElem? (i := 3) rfl)) (fun _ h9 => h9) rfl dX5_land_1 ?_
  refine va_get (ci := 6) (v := .ref (a 1)) (C := RX3) (T := TX3) (N := 9) hx hb hts hi_X3 hown hK hP 0 rfl rfl 0 (by decide) (hts (.fieldLink RX5 41 "WishWell$Well" "lands" "LWishWell$Lands;") (List.mem_of_getElem? (i := 4) rfl)) (fun _ h9 => h9) rfl dX5_land_4 ?_
  refine lv_iload_n hx hb dX5_land_7 rfl (lv_at hl 1 rfl) ?_
  refine kVi (As := [.int p0]) (rest := []) B hK hN hP hD hS hA (c_X0_has l D cI cJ a G g p0 (wl cI b J j ++ (xr cI a b x F ++ rs)) _ rfl) (cwV 1 hts gX5_land_X0_has rfl rfl rfl (by decide +kernel) ⟨(Nat.le_of_ble_eq_true rfl), (Nat.le_of_ble_eq_true rfl)⟩) 3 1 rfl rfl rfl hl.1 rfl (Nat.le_of_ble_eq_true rfl) dX5_land_8 ⟨(Nat.le_of_ble_eq_true rfl), (Nat.le_of_ble_eq_true rfl)⟩ rfl (fun H locs hP hD hS => ?_)
  refine lv_if_ne (tgt := 24) hx hb dX5_land_11 (by decide) (fun c_1 => ?_) (fun c_1 => ?_)
  · have h := in_ h c_1
    refine lv_iload_n hx hb dX5_land_24 rfl (lv_at hl 2 rfl) ?_
    refine lv_iconst (v := 0) hx hb dX5_land_25 (by decide) ?_
    refine lv_iconst (v := 4) hx hb dX5_land_26 (by decide) ?_
    refine kSi (As := [.int p1, .int 0, .int 4]) (rest := []) B hK hN hP hD hS hA (c_X5_within l D cI cJ  p1 0 4 (wl cI a G g ++ (wl cI b J j ++ (xr cI a b x F ++ rs))) _ rfl) (va_cwS 3 hts gX5_land_X5_within rfl rfl rfl (by decide +kernel) ⟨(Nat.le_of_ble_eq_true rfl), (Nat.le_of_ble_eq_true rfl)⟩) rfl hl.1 rfl (Nat.le_of_ble_eq_true rfl) dX5_land_27 ⟨(Nat.le_of_ble_eq_true rfl), (Nat.le_of_ble_eq_true rfl)⟩ rfl (fun H locs hP hD hS => ?_)
    refine lv_if_ne (tgt := 43) hx hb dX5_land_30 (by decide) (fun c_2 => ?_) (fun c_2 => ?_)
    · have h := in_ h c_2
      refine lv_aload_n hx hb dX5_land_43 rfl (lv_at hl 0 rfl) ?_
      refine va_get (ci := 8) (v := .ref (a 0)) (C := RX5) (T := TX5) (N := 3) hx hb hts hi_X5 hown hK hP 56 rfl rfl 0 (by decide) (hts (.fieldLink RX5 10 "WishWell" "well" "LWishWell$Well;") (List.mem_of_getElem? (i := 3) rfl)) (fun _ h9 => h9) rfl dX5_land_44 ?_
      refine lv_iload_n hx hb dX5_land_47 rfl (lv_at hl 1 rfl) ?_
      refine lv_iload_n hx hb dX5_land_48 rfl (lv_at hl 2 rfl) ?_
      obtain ⟨r_3, hx_4, h⟩ := bd_I h
      refine kVi (As := [.int p0, .int p1]) (rest := []) B hK hN hP hD hS hA (c_X3_landFigure l D cI cJ a G g p0 p1 r_3 (wl cI b J j ++ (xr cI a b x F ++ rs)) hx_4) (cwV 2 hts gX5_land_X3_landFigure rfl rfl rfl (by decide +kernel) ⟨(Nat.le_of_ble_eq_true rfl), (Nat.le_of_ble_eq_true rfl)⟩) 6 0 rfl rfl rfl hl.1 rfl (Nat.le_of_ble_eq_true rfl) dX5_land_49 ⟨(Nat.le_of_ble_eq_true rfl), (Nat.le_of_ble_eq_true rfl)⟩ rfl (fun H locs hP hD hS => ?_)
      obtain rfl := o1 h
      exact eX hx hb hr hlk hP hS dX5_land_52 (Nat.le_of_ble_eq_true rfl) (Nat.le_of_ble_eq_true rfl) rfl
    · have h := ip_ h c_2
      obtain rfl := o1 h
      exact eT (text := "what is not 0 to 4") hx hb hfl hlk htb hT hown hP hS (hl.1.trans hml.symm) (hts (.classLink RX5 60 "java/lang/IndexOutOfBoundsException") (List.mem_of_getElem? (i := 1) rfl)) (hts (.initialized "java/lang/IndexOutOfBoundsException") (List.mem_of_getElem? (i := 2) rfl)) (List.mem_of_getElem? (i := 12) rfl) (List.mem_of_getElem? (i := 2) rfl) (fun w h => hts w ((fun _ h => List.mem_cons_of_mem _ (List.mem_append_left _ (List.mem_append_right _ (h)))) w h)) (by decide +kernel) (by decide +kernel) (by decide +kernel) dX5_land_33 dX5_land_36 dX5_land_37 dX5_land_39 dX5_land_42 (Nat.le_of_ble_eq_true rfl) (Nat.le_of_ble_eq_true rfl) (Nat.le_of_ble_eq_true rfl) (Nat.le_of_ble_eq_true rfl) (Nat.le_of_ble_eq_true rfl) (Nat.le_of_ble_eq_true rfl) rfl
  · have h := ip_ h c_1
    obtain rfl := o1 h
    exact eT (text := "there is no such land") hx hb hfl hlk htb hT hown hP hS (hl.1.trans hml.symm) (hts (.classLink RX5 60 "java/lang/IndexOutOfBoundsException") (List.mem_of_getElem? (i := 1) rfl)) (hts (.initialized "java/lang/IndexOutOfBoundsException") (List.mem_of_getElem? (i := 2) rfl)) (List.mem_of_getElem? (i := 5) rfl) (List.mem_of_getElem? (i := 2) rfl) (fun w h => hts w ((fun _ h => List.mem_cons_of_mem _ (List.mem_append_left _ (List.mem_append_right _ (h)))) w h)) (by decide +kernel) (by decide +kernel) (by decide +kernel) dX5_land_14 dX5_land_17 dX5_land_18 dX5_land_20 dX5_land_23 (Nat.le_of_ble_eq_true rfl) (Nat.le_of_ble_eq_true rfl) (Nat.le_of_ble_eq_true rfl) (Nat.le_of_ble_eq_true rfl) (Nat.le_of_ble_eq_true rfl) (Nat.le_of_ble_eq_true rfl) rfl
noncomputable def fX5_coins (G : Nat → Nat → Int32) (g : Nat → Int32) (p0 : Int32) (p1 : Int32) : Option (String ⊕ (Int32)) := if (fX5_within p0 0 4) = 0 then (some (.inl "java/lang/IndexOutOfBoundsException")) else (if (fX0_has g p1) = 0 then (some (.inl "java/lang/IndexOutOfBoundsException")) else (some (.inr (fX1_at G p0 p1))))
set_option maxHeartbeats 4000000 in
set_option maxRecDepth 100000 in
theorem c_X5_coins (l : Launch) (hfl : l.stackTraces = false) (D : va_G) (cI cJ : ClassId) (a b x : Nat → Nat) (G : Nat → Nat → Int32) (g : Nat → Int32) (J : Nat → Nat → Int32) (j : Nat → Int32) (F : Nat → Int32) (p0 : Int32) (p1 : Int32) (z : String ⊕ (Int32)) (rs : va_W) (h : fX5_coins G g p0 p1 = some z) : Cx l yX5_coins wsX5_coins ({ frames := 6, cells := 1, slots := 6, locals := 82 } : Room) D cI cJ ([.ref (x 0), .int p0, .int p1] : List Value) (wl cI a G g ++ (wl cI b J j ++ (xr cI a b x F ++ rs))) (z.elim .inl (fun q => .inr (q, wl cI a G g ++ (wl cI b J j ++ (xr cI a b x F ++ rs))))) := by
  refine Cx.mk (cc := cX5_coins) (maxL := 3) (ret := (some .int)) (by decide) rfl (Nat.le_of_ble_eq_true rfl) ?_
  intro p e s m below meth c A ls B hr hlk htb hT hK hN hA hP hD hl
  obtain ⟨hx, hb, hml, hown, hts⟩ := id B
  have hi_X3 : ∀ w ∈ wsX30, w ∈ wsX5_coins := fun _ h => List.mem_cons_of_mem _ (List.mem_append_left _ (List.mem_append_left _ (List.mem_append_left _ (List.mem_append_left _ (List.mem_append_left _ (List.mem_append_right _ (h)))))))
  have hi_X5 : ∀ w ∈ wsX50, w ∈ wsX5_coins := fun _ h => List.mem_cons_of_mem _ (List.mem_append_left _ (List.mem_append_left _ (List.mem_append_left _ (List.mem_append_left _ (List.mem_append_left _ (List.mem_append_left _ (List.mem_append_right _ (h))))))))
  have hS : va_S A s.heap s.heap [] := va_S.rf
  have hl : lv_has ls 3 [(0, .ref (x 0)), (1, .int p0), (2, .int p1)] := hl
  unfold fX5_coins at h
  refine lv_iload_n hx hb dX5_coins_0 rfl (lv_at hl 1 rfl) ?_
  refine lv_iconst (v := 0) hx hb dX5_coins_1 (by decide) ?_
  refine lv_iconst (v := 4) hx hb dX5_coins_2 (by decide) ?_
  refine kSi (As := [.int p0, .int 0, .int 4]) (rest := []) B hK hN hP hD hS hA (c_X5_within l D cI cJ  p0 0 4 (wl cI a G g ++ (wl cI b J j ++ (xr cI a b x F ++ rs))) _ rfl) (va_cwS 3 hts gX5_coins_X5_within rfl rfl rfl (by decide +kernel) ⟨(Nat.le_of_ble_eq_true rfl), (Nat.le_of_ble_eq_true rfl)⟩) rfl hl.1 rfl (Nat.le_of_ble_eq_true rfl) dX5_coins_3 ⟨(Nat.le_of_ble_eq_true rfl), (Nat.le_of_ble_eq_true rfl)⟩ rfl (fun H locs hP hD hS => ?_)
  refine lv_if_ne (tgt := 19) hx hb dX5_coins_6 (by decide) (fun c_1 => ?_) (fun c_1 => ?_)
  · have h := in_ h c_1
    refine lv_aload_n hx hb dX5_coins_19 rfl (lv_at hl 0 rfl) ?_
    refine va_get (ci := 8) (v := .ref (a 0)) (C := RX5) (T := TX5) (N := 3) hx hb hts hi_X5 hown hK hP 56 rfl rfl 0 (by decide) (hts (.fieldLink RX5 10 "WishWell" "well" "LWishWell$Well;") (List.mem_of_getElem? (i := 3) rfl)) (fun _ h9 => h9) rfl dX5_coins_20 ?_
    refine va_get (ci := 6) (v := .ref (a 1)) (C := RX3) (T := TX3) (N := 9) hx hb hts hi_X3 hown hK hP 0 rfl rfl 0 (by decide) (hts (.fieldLink RX5 41 "WishWell$Well" "lands" "LWishWell$Lands;") (List.mem_of_getElem? (i := 4) rfl)) (fun _ h9 => h9) rfl dX5_coins_23 ?_
    refine lv_iload_n hx hb dX5_coins_26 rfl (lv_at hl 2 rfl) ?_
    refine kVi (As := [.int p1]) (rest := []) B hK hN hP hD hS hA (c_X0_has l D cI cJ a G g p1 (wl cI b J j ++ (xr cI a b x F ++ rs)) _ rfl) (cwV 1 hts gX5_coins_X0_has rfl rfl rfl (by decide +kernel) ⟨(Nat.le_of_ble_eq_true rfl), (Nat.le_of_ble_eq_true rfl)⟩) 3 1 rfl rfl rfl hl.1 rfl (Nat.le_of_ble_eq_true rfl) dX5_coins_27 ⟨(Nat.le_of_ble_eq_true rfl), (Nat.le_of_ble_eq_true rfl)⟩ rfl (fun H locs hP hD hS => ?_)
    refine lv_if_ne (tgt := 43) hx hb dX5_coins_30 (by decide) (fun c_2 => ?_) (fun c_2 => ?_)
    · have h := in_ h c_2
      refine lv_aload_n hx hb dX5_coins_43 rfl (lv_at hl 0 rfl) ?_
      refine va_get (ci := 8) (v := .ref (a 0)) (C := RX5) (T := TX5) (N := 3) hx hb hts hi_X5 hown hK hP 56 rfl rfl 0 (by decide) (hts (.fieldLink RX5 10 "WishWell" "well" "LWishWell$Well;") (List.mem_of_getElem? (i := 3) rfl)) (fun _ h9 => h9) rfl dX5_coins_44 ?_
      refine va_get (ci := 6) (v := .ref (a 3)) (C := RX3) (T := TX3) (N := 9) hx hb hts hi_X3 hown hK hP 0 rfl rfl 2 (by decide) (hts (.fieldLink RX5 133 "WishWell$Well" "layers" "LWishWell$Layers;") (List.mem_of_getElem? (i := 5) rfl)) (fun _ h9 => h9) rfl dX5_coins_47 ?_
      refine lv_iload_n hx hb dX5_coins_50 rfl (lv_at hl 1 rfl) ?_
      refine lv_iload_n hx hb dX5_coins_51 rfl (lv_at hl 2 rfl) ?_
      refine kVi (As := [.int p0, .int p1]) (rest := []) B hK hN hP hD hS hA (c_X1_at l D cI cJ a G g p0 p1 (wl cI b J j ++ (xr cI a b x F ++ rs)) _ rfl) (cwV 2 hts gX5_coins_X1_at rfl rfl rfl (by decide +kernel) ⟨(Nat.le_of_ble_eq_true rfl), (Nat.le_of_ble_eq_true rfl)⟩) 4 3 rfl rfl rfl hl.1 rfl (Nat.le_of_ble_eq_true rfl) dX5_coins_52 ⟨(Nat.le_of_ble_eq_true rfl), (Nat.le_of_ble_eq_true rfl)⟩ rfl (fun H locs hP hD hS => ?_)
      obtain rfl := o1 h
      exact eX hx hb hr hlk hP hS dX5_coins_55 (Nat.le_of_ble_eq_true rfl) (Nat.le_of_ble_eq_true rfl) rfl
    · have h := ip_ h c_2
      obtain rfl := o1 h
      exact eT (text := "there is no such land") hx hb hfl hlk htb hT hown hP hS (hl.1.trans hml.symm) (hts (.classLink RX5 60 "java/lang/IndexOutOfBoundsException") (List.mem_of_getElem? (i := 1) rfl)) (hts (.initialized "java/lang/IndexOutOfBoundsException") (List.mem_of_getElem? (i := 2) rfl)) (List.mem_of_getElem? (i := 5) rfl) (List.mem_of_getElem? (i := 2) rfl) (fun w h => hts w ((fun _ h => List.mem_cons_of_mem _ (List.mem_append_left _ (List.mem_append_right _ (h)))) w h)) (by decide +kernel) (by decide +kernel) (by decide +kernel) dX5_coins_33 dX5_coins_36 dX5_coins_37 dX5_coins_39 dX5_coins_42 (Nat.le_of_ble_eq_true rfl) (Nat.le_of_ble_eq_true rfl) (Nat.le_of_ble_eq_true rfl) (Nat.le_of_ble_eq_true rfl) (Nat.le_of_ble_eq_true rfl) (Nat.le_of_ble_eq_true rfl) rfl
  · have h := ip_ h c_1
    obtain rfl := o1 h
    exact eT (text := "layer is not 0 to 4") hx hb hfl hlk htb hT hown hP hS (hl.1.trans hml.symm) (hts (.classLink RX5 60 "java/lang/IndexOutOfBoundsException") (List.mem_of_getElem? (i := 1) rfl)) (hts (.initialized "java/lang/IndexOutOfBoundsException") (List.mem_of_getElem? (i := 2) rfl)) (List.mem_of_getElem? (i := 10) rfl) (List.mem_of_getElem? (i := 2) rfl) (fun w h => hts w ((fun _ h => List.mem_cons_of_mem _ (List.mem_append_left _ (List.mem_append_right _ (h)))) w h)) (by decide +kernel) (by decide +kernel) (by decide +kernel) dX5_coins_9 dX5_coins_12 dX5_coins_13 dX5_coins_15 dX5_coins_18 (Nat.le_of_ble_eq_true rfl) (Nat.le_of_ble_eq_true rfl) (Nat.le_of_ble_eq_true rfl) (Nat.le_of_ble_eq_true rfl) (Nat.le_of_ble_eq_true rfl) (Nat.le_of_ble_eq_true rfl) rfl
noncomputable def fX5_told (G : Nat → Nat → Int32) (g : Nat → Int32) (p0 : Int32) (p1 : Int32) : Option (String ⊕ (Int32)) := if (fX4_has g p0) = 0 then (some (.inl "java/lang/IndexOutOfBoundsException")) else (if (fX5_within p1 0 4) = 0 then (some (.inl "java/lang/IndexOutOfBoundsException")) else (some (.inr (fX4_figure G p0 p1))))
set_option maxHeartbeats 4000000 in
set_option maxRecDepth 100000 in
theorem c_X5_told (l : Launch) (hfl : l.stackTraces = false) (D : va_G) (cI cJ : ClassId) (a b x : Nat → Nat) (G : Nat → Nat → Int32) (g : Nat → Int32) (J : Nat → Nat → Int32) (j : Nat → Int32) (F : Nat → Int32) (p0 : Int32) (p1 : Int32) (z : String ⊕ (Int32)) (rs : va_W) (h : fX5_told G g p0 p1 = some z) : Cx l yX5_told wsX5_told ({ frames := 6, cells := 1, slots := 6, locals := 82 } : Room) D cI cJ ([.ref (x 0), .int p0, .int p1] : List Value) (wl cI a G g ++ (wl cI b J j ++ (xr cI a b x F ++ rs))) (z.elim .inl (fun q => .inr (q, wl cI a G g ++ (wl cI b J j ++ (xr cI a b x F ++ rs))))) := by
  refine Cx.mk (cc := cX5_told) (maxL := 3) (ret := (some .int)) (by decide) rfl (Nat.le_of_ble_eq_true rfl) ?_
  intro p e s m below meth c A ls B hr hlk htb hT hK hN hA hP hD hl
  obtain ⟨hx, hb, hml, hown, hts⟩ := id B
  have hi_X3 : ∀ w ∈ wsX30, w ∈ wsX5_told := fun _ h => List.mem_cons_of_mem _ (List.mem_append_left _ (List.mem_append_left _ (List.mem_append_left _ (List.mem_append_left _ (List.mem_append_right _ (h))))))
  have hi_X5 : ∀ w ∈ wsX50, w ∈ wsX5_told := fun _ h => List.mem_cons_of_mem _ (List.mem_append_left _ (List.mem_append_left _ (List.mem_append_left _ (List.mem_append_left _ (List.mem_append_left _ (List.mem_append_right _ (h)))))))
  have hS : va_S A s.heap s.heap [] := va_S.rf
  have hl : lv_has ls 3 [(0, .ref (x 0)), (1, .int p0), (2, .int p1)] := hl
  unfold fX5_told at h
  refine lv_aload_n hx hb dX5_told_0 rfl (lv_at hl 0 rfl) ?_
  refine va_get (ci := 8) (v := .ref (a 0)) (C := RX5) (T := TX5) (N := 3) hx hb hts hi_X5 hown hK hP 56 rfl rfl 0 (by decide) (hts (.fieldLink RX5 10 "WishWell" "well" "LWishWell$Well;") (List.mem_of_getElem? (i := 3) rfl)) (fun _ h9 => h9) rfl dX5_told_1 ?_
  refine va_get (ci := 6) (v := .ref (a 2)) (C := RX3) (T := TX3) (N := 9) hx hb hts hi_X3 hown hK hP 0 rfl rfl 1 (by decide) (hts (.fieldLink RX5 86 "WishWell$Well" "wishes" "LWishWell$Wishes;") (List.mem_of_getElem? (i := 4) rfl)) (fun _ h9 => h9) rfl dX5_told_4 ?_
  refine lv_iload_n hx hb dX5_told_7 rfl (lv_at hl 1 rfl) ?_
  refine kVi (As := [.int p0]) (rest := []) B hK hN hP hD hS hA (c_X4_has l D cI cJ a G g p0 (wl cI b J j ++ (xr cI a b x F ++ rs)) _ rfl) (cwV 1 hts gX5_told_X4_has rfl rfl rfl (by decide +kernel) ⟨(Nat.le_of_ble_eq_true rfl), (Nat.le_of_ble_eq_true rfl)⟩) 7 2 rfl rfl rfl hl.1 rfl (Nat.le_of_ble_eq_true rfl) dX5_told_8 ⟨(Nat.le_of_ble_eq_true rfl), (Nat.le_of_ble_eq_true rfl)⟩ rfl (fun H locs hP hD hS => ?_)
  refine lv_if_ne (tgt := 24) hx hb dX5_told_11 (by decide) (fun c_1 => ?_) (fun c_1 => ?_)
  · have h := in_ h c_1
    refine lv_iload_n hx hb dX5_told_24 rfl (lv_at hl 2 rfl) ?_
    refine lv_iconst (v := 0) hx hb dX5_told_25 (by decide) ?_
    refine lv_iconst (v := 4) hx hb dX5_told_26 (by decide) ?_
    refine kSi (As := [.int p1, .int 0, .int 4]) (rest := []) B hK hN hP hD hS hA (c_X5_within l D cI cJ  p1 0 4 (wl cI a G g ++ (wl cI b J j ++ (xr cI a b x F ++ rs))) _ rfl) (va_cwS 3 hts gX5_told_X5_within rfl rfl rfl (by decide +kernel) ⟨(Nat.le_of_ble_eq_true rfl), (Nat.le_of_ble_eq_true rfl)⟩) rfl hl.1 rfl (Nat.le_of_ble_eq_true rfl) dX5_told_27 ⟨(Nat.le_of_ble_eq_true rfl), (Nat.le_of_ble_eq_true rfl)⟩ rfl (fun H locs hP hD hS => ?_)
    refine lv_if_ne (tgt := 43) hx hb dX5_told_30 (by decide) (fun c_2 => ?_) (fun c_2 => ?_)
    · have h := in_ h c_2
      refine lv_aload_n hx hb dX5_told_43 rfl (lv_at hl 0 rfl) ?_
      refine va_get (ci := 8) (v := .ref (a 0)) (C := RX5) (T := TX5) (N := 3) hx hb hts hi_X5 hown hK hP 56 rfl rfl 0 (by decide) (hts (.fieldLink RX5 10 "WishWell" "well" "LWishWell$Well;") (List.mem_of_getElem? (i := 3) rfl)) (fun _ h9 => h9) rfl dX5_told_44 ?_
      refine va_get (ci := 6) (v := .ref (a 2)) (C := RX3) (T := TX3) (N := 9) hx hb hts hi_X3 hown hK hP 0 rfl rfl 1 (by decide) (hts (.fieldLink RX5 86 "WishWell$Well" "wishes" "LWishWell$Wishes;") (List.mem_of_getElem? (i := 4) rfl)) (fun _ h9 => h9) rfl dX5_told_47 ?_
      refine lv_iload_n hx hb dX5_told_50 rfl (lv_at hl 1 rfl) ?_
      refine lv_iload_n hx hb dX5_told_51 rfl (lv_at hl 2 rfl) ?_
      refine kVi (As := [.int p0, .int p1]) (rest := []) B hK hN hP hD hS hA (c_X4_figure l D cI cJ a G g p0 p1 (wl cI b J j ++ (xr cI a b x F ++ rs)) _ rfl) (cwV 2 hts gX5_told_X4_figure rfl rfl rfl (by decide +kernel) ⟨(Nat.le_of_ble_eq_true rfl), (Nat.le_of_ble_eq_true rfl)⟩) 7 2 rfl rfl rfl hl.1 rfl (Nat.le_of_ble_eq_true rfl) dX5_told_52 ⟨(Nat.le_of_ble_eq_true rfl), (Nat.le_of_ble_eq_true rfl)⟩ rfl (fun H locs hP hD hS => ?_)
      obtain rfl := o1 h
      exact eX hx hb hr hlk hP hS dX5_told_55 (Nat.le_of_ble_eq_true rfl) (Nat.le_of_ble_eq_true rfl) rfl
    · have h := ip_ h c_2
      obtain rfl := o1 h
      exact eT (text := "what is not 0 to 4") hx hb hfl hlk htb hT hown hP hS (hl.1.trans hml.symm) (hts (.classLink RX5 60 "java/lang/IndexOutOfBoundsException") (List.mem_of_getElem? (i := 1) rfl)) (hts (.initialized "java/lang/IndexOutOfBoundsException") (List.mem_of_getElem? (i := 2) rfl)) (List.mem_of_getElem? (i := 12) rfl) (List.mem_of_getElem? (i := 2) rfl) (fun w h => hts w ((fun _ h => List.mem_cons_of_mem _ (List.mem_append_left _ (List.mem_append_right _ (h)))) w h)) (by decide +kernel) (by decide +kernel) (by decide +kernel) dX5_told_33 dX5_told_36 dX5_told_37 dX5_told_39 dX5_told_42 (Nat.le_of_ble_eq_true rfl) (Nat.le_of_ble_eq_true rfl) (Nat.le_of_ble_eq_true rfl) (Nat.le_of_ble_eq_true rfl) (Nat.le_of_ble_eq_true rfl) (Nat.le_of_ble_eq_true rfl) rfl
  · have h := ip_ h c_1
    obtain rfl := o1 h
    exact eT (text := "there is no such wish") hx hb hfl hlk htb hT hown hP hS (hl.1.trans hml.symm) (hts (.classLink RX5 60 "java/lang/IndexOutOfBoundsException") (List.mem_of_getElem? (i := 1) rfl)) (hts (.initialized "java/lang/IndexOutOfBoundsException") (List.mem_of_getElem? (i := 2) rfl)) (List.mem_of_getElem? (i := 8) rfl) (List.mem_of_getElem? (i := 2) rfl) (fun w h => hts w ((fun _ h => List.mem_cons_of_mem _ (List.mem_append_left _ (List.mem_append_right _ (h)))) w h)) (by decide +kernel) (by decide +kernel) (by decide +kernel) dX5_told_14 dX5_told_17 dX5_told_18 dX5_told_20 dX5_told_23 (Nat.le_of_ble_eq_true rfl) (Nat.le_of_ble_eq_true rfl) (Nat.le_of_ble_eq_true rfl) (Nat.le_of_ble_eq_true rfl) (Nat.le_of_ble_eq_true rfl) (Nat.le_of_ble_eq_true rfl) rfl
noncomputable def fX5_count (G : Nat → Nat → Int32) (g : Nat → Int32) (p0 : Int32) : Option (String ⊕ (Int32)) := if (fX5_within p0 0 10) = 0 then (some (.inl "java/lang/IndexOutOfBoundsException")) else (Option.bind (fX3_figure G g p0) (fun r_2 => some (.inr r_2)))
set_option maxHeartbeats 4000000 in
set_option maxRecDepth 100000 in
theorem c_X5_count (l : Launch) (hfl : l.stackTraces = false) (D : va_G) (cI cJ : ClassId) (a b x : Nat → Nat) (G : Nat → Nat → Int32) (g : Nat → Int32) (J : Nat → Nat → Int32) (j : Nat → Int32) (F : Nat → Int32) (p0 : Int32) (z : String ⊕ (Int32)) (rs : va_W) (h : fX5_count G g p0 = some z) : Cx l yX5_count wsX5_count ({ frames := 6, cells := 1, slots := 6, locals := 110 } : Room) D cI cJ ([.ref (x 0), .int p0] : List Value) (wl cI a G g ++ (wl cI b J j ++ (xr cI a b x F ++ rs))) (z.elim .inl (fun q => .inr (q, wl cI a G g ++ (wl cI b J j ++ (xr cI a b x F ++ rs))))) := by
  refine Cx.mk (cc := cX5_count) (maxL := 2) (ret := (some .int)) (by decide) rfl (Nat.le_of_ble_eq_true rfl) ?_
  intro p e s m below meth c A ls B hr hlk htb hT hK hN hA hP hD hl
  obtain ⟨hx, hb, hml, hown, hts⟩ := id B
  have hi_X5 : ∀ w ∈ wsX50, w ∈ wsX5_count := fun _ h => List.mem_cons_of_mem _ (List.mem_append_left _ (List.mem_append_left _ (List.mem_append_left _ (List.mem_append_left _ (List.mem_append_left _ (List.mem_append_left _ (List.mem_append_left _ (List.mem_append_right _ (h)))))))))
  have hS : va_S A s.heap s.heap [] := va_S.rf
  have hl : lv_has ls 2 [(0, .ref (x 0)), (1, .int p0)] := hl
  unfold fX5_count at h
  refine lv_iload_n hx hb dX5_count_0 rfl (lv_at hl 1 rfl) ?_
  refine lv_iconst (v := 0) hx hb dX5_count_1 (by decide) ?_
  refine lv_bipush (v := 10) hx hb dX5_count_2 (by decide) ?_
  refine kSi (As := [.int p0, .int 0, .int 10]) (rest := []) B hK hN hP hD hS hA (c_X5_within l D cI cJ  p0 0 10 (wl cI a G g ++ (wl cI b J j ++ (xr cI a b x F ++ rs))) _ rfl) (va_cwS 3 hts gX5_count_X5_within rfl rfl rfl (by decide +kernel) ⟨(Nat.le_of_ble_eq_true rfl), (Nat.le_of_ble_eq_true rfl)⟩) rfl hl.1 rfl (Nat.le_of_ble_eq_true rfl) dX5_count_4 ⟨(Nat.le_of_ble_eq_true rfl), (Nat.le_of_ble_eq_true rfl)⟩ rfl (fun H locs hP hD hS => ?_)
  refine lv_if_ne (tgt := 20) hx hb dX5_count_7 (by decide) (fun c_1 => ?_) (fun c_1 => ?_)
  · have h := in_ h c_1
    refine lv_aload_n hx hb dX5_count_20 rfl (lv_at hl 0 rfl) ?_
    refine va_get (ci := 8) (v := .ref (a 0)) (C := RX5) (T := TX5) (N := 3) hx hb hts hi_X5 hown hK hP 56 rfl rfl 0 (by decide) (hts (.fieldLink RX5 10 "WishWell" "well" "LWishWell$Well;") (List.mem_of_getElem? (i := 3) rfl)) (fun _ h9 => h9) rfl dX5_count_21 ?_
    refine lv_iload_n hx hb dX5_count_24 rfl (lv_at hl 1 rfl) ?_
    obtain ⟨r_2, hx_3, h⟩ := bd_I h
    refine kVi (As := [.int p0]) (rest := []) B hK hN hP hD hS hA (c_X3_figure l D cI cJ a G g p0 r_2 (wl cI b J j ++ (xr cI a b x F ++ rs)) hx_3) (cwV 1 hts gX5_count_X3_figure rfl rfl rfl (by decide +kernel) ⟨(Nat.le_of_ble_eq_true rfl), (Nat.le_of_ble_eq_true rfl)⟩) 6 0 rfl rfl rfl hl.1 rfl (Nat.le_of_ble_eq_true rfl) dX5_count_25 ⟨(Nat.le_of_ble_eq_true rfl), (Nat.le_of_ble_eq_true rfl)⟩ rfl (fun H locs hP hD hS => ?_)
    obtain rfl := o1 h
    exact eX hx hb hr hlk hP hS dX5_count_28 (Nat.le_of_ble_eq_true rfl) (Nat.le_of_ble_eq_true rfl) rfl
  · have h := ip_ h c_1
    obtain rfl := o1 h
    exact eT (text := "what is not 0 to 10") hx hb hfl hlk htb hT hown hP hS (hl.1.trans hml.symm) (hts (.classLink RX5 60 "java/lang/IndexOutOfBoundsException") (List.mem_of_getElem? (i := 1) rfl)) (hts (.initialized "java/lang/IndexOutOfBoundsException") (List.mem_of_getElem? (i := 2) rfl)) (List.mem_of_getElem? (i := 13) rfl) (List.mem_of_getElem? (i := 2) rfl) (fun w h => hts w ((fun _ h => List.mem_cons_of_mem _ (List.mem_append_left _ (List.mem_append_right _ (h)))) w h)) (by decide +kernel) (by decide +kernel) (by decide +kernel) dX5_count_10 dX5_count_13 dX5_count_14 dX5_count_16 dX5_count_19 (Nat.le_of_ble_eq_true rfl) (Nat.le_of_ble_eq_true rfl) (Nat.le_of_ble_eq_true rfl) (Nat.le_of_ble_eq_true rfl) (Nat.le_of_ble_eq_true rfl) (Nat.le_of_ble_eq_true rfl) rfl
noncomputable def fX5_next (G : Nat → Nat → Int32) (g : Nat → Int32) (p0 : Int32) : Option (String ⊕ (Int32)) := if (fX5_within p0 0 3) = 0 then (some (.inl "java/lang/IndexOutOfBoundsException")) else (Option.bind (fX3_nextWish G g p0) (fun r_2 => some (.inr r_2)))
set_option maxHeartbeats 4000000 in
set_option maxRecDepth 100000 in
theorem c_X5_next (l : Launch) (hfl : l.stackTraces = false) (D : va_G) (cI cJ : ClassId) (a b x : Nat → Nat) (G : Nat → Nat → Int32) (g : Nat → Int32) (J : Nat → Nat → Int32) (j : Nat → Int32) (F : Nat → Int32) (p0 : Int32) (z : String ⊕ (Int32)) (rs : va_W) (h : fX5_next G g p0 = some z) : Cx l yX5_next wsX5_next ({ frames := 6, cells := 1, slots := 6, locals := 82 } : Room) D cI cJ ([.ref (x 0), .int p0] : List Value) (wl cI a G g ++ (wl cI b J j ++ (xr cI a b x F ++ rs))) (z.elim .inl (fun q => .inr (q, wl cI a G g ++ (wl cI b J j ++ (xr cI a b x F ++ rs))))) := by
  refine Cx.mk (cc := cX5_next) (maxL := 2) (ret := (some .int)) (by decide) rfl (Nat.le_of_ble_eq_true rfl) ?_
  intro p e s m below meth c A ls B hr hlk htb hT hK hN hA hP hD hl
  obtain ⟨hx, hb, hml, hown, hts⟩ := id B
  have hi_X5 : ∀ w ∈ wsX50, w ∈ wsX5_next := fun _ h => List.mem_cons_of_mem _ (List.mem_append_left _ (List.mem_append_left _ (List.mem_append_left _ (List.mem_append_left _ (List.mem_append_left _ (List.mem_append_left _ (List.mem_append_right _ (h))))))))
  have hS : va_S A s.heap s.heap [] := va_S.rf
  have hl : lv_has ls 2 [(0, .ref (x 0)), (1, .int p0)] := hl
  unfold fX5_next at h
  refine lv_iload_n hx hb dX5_next_0 rfl (lv_at hl 1 rfl) ?_
  refine lv_iconst (v := 0) hx hb dX5_next_1 (by decide) ?_
  refine lv_iconst (v := 3) hx hb dX5_next_2 (by decide) ?_
  refine kSi (As := [.int p0, .int 0, .int 3]) (rest := []) B hK hN hP hD hS hA (c_X5_within l D cI cJ  p0 0 3 (wl cI a G g ++ (wl cI b J j ++ (xr cI a b x F ++ rs))) _ rfl) (va_cwS 3 hts gX5_next_X5_within rfl rfl rfl (by decide +kernel) ⟨(Nat.le_of_ble_eq_true rfl), (Nat.le_of_ble_eq_true rfl)⟩) rfl hl.1 rfl (Nat.le_of_ble_eq_true rfl) dX5_next_3 ⟨(Nat.le_of_ble_eq_true rfl), (Nat.le_of_ble_eq_true rfl)⟩ rfl (fun H locs hP hD hS => ?_)
  refine lv_if_ne (tgt := 19) hx hb dX5_next_6 (by decide) (fun c_1 => ?_) (fun c_1 => ?_)
  · have h := in_ h c_1
    refine lv_aload_n hx hb dX5_next_19 rfl (lv_at hl 0 rfl) ?_
    refine va_get (ci := 8) (v := .ref (a 0)) (C := RX5) (T := TX5) (N := 3) hx hb hts hi_X5 hown hK hP 56 rfl rfl 0 (by decide) (hts (.fieldLink RX5 10 "WishWell" "well" "LWishWell$Well;") (List.mem_of_getElem? (i := 3) rfl)) (fun _ h9 => h9) rfl dX5_next_20 ?_
    refine lv_iload_n hx hb dX5_next_23 rfl (lv_at hl 1 rfl) ?_
    obtain ⟨r_2, hx_3, h⟩ := bd_I h
    refine kVi (As := [.int p0]) (rest := []) B hK hN hP hD hS hA (c_X3_nextWish l D cI cJ a G g p0 r_2 (wl cI b J j ++ (xr cI a b x F ++ rs)) hx_3) (cwV 1 hts gX5_next_X3_nextWish rfl rfl rfl (by decide +kernel) ⟨(Nat.le_of_ble_eq_true rfl), (Nat.le_of_ble_eq_true rfl)⟩) 6 0 rfl rfl rfl hl.1 rfl (Nat.le_of_ble_eq_true rfl) dX5_next_24 ⟨(Nat.le_of_ble_eq_true rfl), (Nat.le_of_ble_eq_true rfl)⟩ rfl (fun H locs hP hD hS => ?_)
    obtain rfl := o1 h
    exact eX hx hb hr hlk hP hS dX5_next_27 (Nat.le_of_ble_eq_true rfl) (Nat.le_of_ble_eq_true rfl) rfl
  · have h := ip_ h c_1
    obtain rfl := o1 h
    exact eT (text := "kind is not 0 to 3") hx hb hfl hlk htb hT hown hP hS (hl.1.trans hml.symm) (hts (.classLink RX5 60 "java/lang/IndexOutOfBoundsException") (List.mem_of_getElem? (i := 1) rfl)) (hts (.initialized "java/lang/IndexOutOfBoundsException") (List.mem_of_getElem? (i := 2) rfl)) (List.mem_of_getElem? (i := 6) rfl) (List.mem_of_getElem? (i := 2) rfl) (fun w h => hts w ((fun _ h => List.mem_cons_of_mem _ (List.mem_append_left _ (List.mem_append_right _ (h)))) w h)) (by decide +kernel) (by decide +kernel) (by decide +kernel) dX5_next_9 dX5_next_12 dX5_next_13 dX5_next_15 dX5_next_18 (Nat.le_of_ble_eq_true rfl) (Nat.le_of_ble_eq_true rfl) (Nat.le_of_ble_eq_true rfl) (Nat.le_of_ble_eq_true rfl) (Nat.le_of_ble_eq_true rfl) (Nat.le_of_ble_eq_true rfl) rfl
noncomputable def fX5_waits (G : Nat → Nat → Int32) (g : Nat → Int32) (J : Nat → Nat → Int32) (j : Nat → Int32) (p0 : Int32) : Option (String ⊕ (Int32 × (Nat → Nat → Int32) × (Nat → Int32))) := if (fX4_has g p0) = 0 then (some (.inl "java/lang/IndexOutOfBoundsException")) else (lt_ (rAt 24 (G 9) p0) (fun y2_2 => if y2_2 = 1 then (some (.inr (0, J, j))) else (if y2_2 = 2 then (some (.inr ((-1), J, j))) else (b3 (fX5_daysTillGranted G g J j p0) (fun r_5 J_6 j_7 => some (.inr (r_5, J_6, j_7)))))))
set_option maxHeartbeats 4000000 in
set_option maxRecDepth 100000 in
theorem c_X5_waits (l : Launch) (hfl : l.stackTraces = false) (D : va_G) (cI cJ : ClassId) (a b x : Nat → Nat) (G : Nat → Nat → Int32) (g : Nat → Int32) (J : Nat → Nat → Int32) (j : Nat → Int32) (F : Nat → Int32) (p0 : Int32) (z : String ⊕ (Int32 × (Nat → Nat → Int32) × (Nat → Int32))) (rs : va_W) (h : fX5_waits G g J j p0 = some z) : Cx l yX5_waits wsX5_waits ({ frames := 6, cells := 1, slots := 6, locals := 145 } : Room) D cI cJ ([.ref (x 0), .int p0] : List Value) (wl cI a G g ++ (wl cI b J j ++ (xr cI a b x F ++ rs))) (z.elim .inl (fun q => .inr (q.1, wl cI a G g ++ (wl cI b q.2.1 q.2.2 ++ (xr cI a b x F ++ rs))))) := by
  refine Cx.mk (cc := cX5_waits) (maxL := 3) (ret := (some .int)) (by decide) rfl (Nat.le_of_ble_eq_true rfl) ?_
  intro p e s m below meth c A ls B hr hlk htb hT hK hN hA hP hD hl
  obtain ⟨hx, hb, hml, hown, hts⟩ := id B
  have hi_X3 : ∀ w ∈ wsX30, w ∈ wsX5_waits := fun _ h => List.mem_cons_of_mem _ (List.mem_append_left _ (List.mem_append_left _ (List.mem_append_left _ (List.mem_append_left _ (List.mem_append_left _ (List.mem_append_left _ (List.mem_append_right _ (h))))))))
  have hi_X4 : ∀ w ∈ wsX40, w ∈ wsX5_waits := fun _ h => List.mem_cons_of_mem _ (List.mem_append_left _ (List.mem_append_left _ (List.mem_append_left _ (List.mem_append_left _ (List.mem_append_left _ (List.mem_append_right _ (h)))))))
  have hi_X5 : ∀ w ∈ wsX50, w ∈ wsX5_waits := fun _ h => List.mem_cons_of_mem _ (List.mem_append_left _ (List.mem_append_left _ (List.mem_append_left _ (List.mem_append_left _ (List.mem_append_left _ (List.mem_append_left _ (List.mem_append_left _ (List.mem_append_right _ (h)))))))))
  have hS : va_S A s.heap s.heap [] := va_S.rf
  have hl : lv_has ls 3 [(0, .ref (x 0)), (1, .int p0)] := hl
  unfold fX5_waits at h
  refine lv_aload_n hx hb dX5_waits_0 rfl (lv_at hl 0 rfl) ?_
  refine va_get (ci := 8) (v := .ref (a 0)) (C := RX5) (T := TX5) (N := 3) hx hb hts hi_X5 hown hK hP 56 rfl rfl 0 (by decide) (hts (.fieldLink RX5 10 "WishWell" "well" "LWishWell$Well;") (List.mem_of_getElem? (i := 3) rfl)) (fun _ h9 => h9) rfl dX5_waits_1 ?_
  refine va_get (ci := 6) (v := .ref (a 2)) (C := RX3) (T := TX3) (N := 9) hx hb hts hi_X3 hown hK hP 0 rfl rfl 1 (by decide) (hts (.fieldLink RX5 86 "WishWell$Well" "wishes" "LWishWell$Wishes;") (List.mem_of_getElem? (i := 4) rfl)) (fun _ h9 => h9) rfl dX5_waits_4 ?_
  refine lv_iload_n hx hb dX5_waits_7 rfl (lv_at hl 1 rfl) ?_
  refine kVi (As := [.int p0]) (rest := []) B hK hN hP hD hS hA (c_X4_has l D cI cJ a G g p0 (wl cI b J j ++ (xr cI a b x F ++ rs)) _ rfl) (cwV 1 hts gX5_waits_X4_has rfl rfl rfl (by decide +kernel) ⟨(Nat.le_of_ble_eq_true rfl), (Nat.le_of_ble_eq_true rfl)⟩) 7 2 rfl rfl rfl hl.1 rfl (Nat.le_of_ble_eq_true rfl) dX5_waits_8 ⟨(Nat.le_of_ble_eq_true rfl), (Nat.le_of_ble_eq_true rfl)⟩ rfl (fun H locs hP hD hS => ?_)
  refine lv_if_ne (tgt := 24) hx hb dX5_waits_11 (by decide) (fun c_1 => ?_) (fun c_1 => ?_)
  · have h := in_ h c_1
    refine lv_aload_n hx hb dX5_waits_24 rfl (lv_at hl 0 rfl) ?_
    refine va_get (ci := 8) (v := .ref (a 0)) (C := RX5) (T := TX5) (N := 3) hx hb hts hi_X5 hown hK hP 56 rfl rfl 0 (by decide) (hts (.fieldLink RX5 10 "WishWell" "well" "LWishWell$Well;") (List.mem_of_getElem? (i := 3) rfl)) (fun _ h9 => h9) rfl dX5_waits_25 ?_
    refine va_get (ci := 6) (v := .ref (a 2)) (C := RX3) (T := TX3) (N := 9) hx hb hts hi_X3 hown hK hP 0 rfl rfl 1 (by decide) (hts (.fieldLink RX5 86 "WishWell$Well" "wishes" "LWishWell$Wishes;") (List.mem_of_getElem? (i := 4) rfl)) (fun _ h9 => h9) rfl dX5_waits_28 ?_
    refine va_get (ci := 7) (v := .ref (a 13)) (C := RX4) (T := TX4) (N := 6) hx hb hts hi_X4 hown hK hP 2 rfl rfl 3 (by decide) (hts (.fieldLink RX5 107 "WishWell$Wishes" "fates" "LWishWell$Row;") (List.mem_of_getElem? (i := 5) rfl)) (fun _ h9 => h9) rfl dX5_waits_31 ?_
    refine lv_iload_n hx hb dX5_waits_34 rfl (lv_at hl 1 rfl) ?_
    refine kVi (As := [.int p0]) (rest := []) B hK hN hP hD hS hA (c_X2_at l D cI cJ _ _ _ 24 (G 9) 13 25 rfl rfl (by decide) p0) (cwV 1 hts gX5_waits_X2_at rfl rfl rfl (by decide +kernel) ⟨(Nat.le_of_ble_eq_true rfl), (Nat.le_of_ble_eq_true rfl)⟩) 5 13 rfl rfl rfl hl.1 rfl (Nat.le_of_ble_eq_true rfl) dX5_waits_35 ⟨(Nat.le_of_ble_eq_true rfl), (Nat.le_of_ble_eq_true rfl)⟩ rfl (fun H locs hP hD hS => ?_)
    obtain ⟨y2_2, ey2_2, h⟩ := lt_I h
    rw [← ey2_2]
    refine lv_istore_n (lv' := [(2, .int y2_2), (0, .ref (x 0)), (1, .int p0)]) hx hb dX5_waits_38 rfl hl (by decide) rfl (fun ls hl => ?_)
    refine lv_iload_n hx hb dX5_waits_39 rfl (lv_at hl 0 rfl) ?_
    refine lv_iconst (v := 1) hx hb dX5_waits_40 (by decide) ?_
    refine lv_icmp_ne (tgt := 46) hx hb dX5_waits_41 (by decide) (fun c_3 => ?_) (fun c_3 => ?_)
    · have h := in_ h c_3
      refine lv_iload_n hx hb dX5_waits_46 rfl (lv_at hl 0 rfl) ?_
      refine lv_iconst (v := 2) hx hb dX5_waits_47 (by decide) ?_
      refine lv_icmp_ne (tgt := 55) hx hb dX5_waits_48 (by decide) (fun c_4 => ?_) (fun c_4 => ?_)
      · have h := in_ h c_4
        refine lv_aload_n hx hb dX5_waits_55 rfl (lv_at hl 1 rfl) ?_
        refine lv_iload_n hx hb dX5_waits_56 rfl (lv_at hl 2 rfl) ?_
        obtain ⟨r_5, J_6, j_7, hx_8, h⟩ := b3_I h
        refine kVi (As := [.int p0]) (rest := []) B hK hN hP hD hS hA (c_X5_daysTillGranted l D cI cJ a b x G g J j F p0 r_5 J_6 j_7 rs hx_8) (cwV 1 hts gX5_waits_X5_daysTillGranted rfl rfl rfl (by decide +kernel) ⟨(Nat.le_of_ble_eq_true rfl), (Nat.le_of_ble_eq_true rfl)⟩) 8 56 rfl rfl rfl hl.1 rfl (Nat.le_of_ble_eq_true rfl) dX5_waits_57 ⟨(Nat.le_of_ble_eq_true rfl), (Nat.le_of_ble_eq_true rfl)⟩ rfl (fun H locs hP hD hS => ?_)
        obtain rfl := o1 h
        exact eX hx hb hr hlk hP hS dX5_waits_60 (Nat.le_of_ble_eq_true rfl) (Nat.le_of_ble_eq_true rfl) rfl
      · have h := ip_ h c_4
        refine lv_iconst (v := (-1)) hx hb dX5_waits_51 (by decide) ?_
        refine lv_goto (tgt := 60) hx hb dX5_waits_52 (by decide) ?_
        obtain rfl := o1 h
        exact eX hx hb hr hlk hP hS dX5_waits_60 (Nat.le_of_ble_eq_true rfl) (Nat.le_of_ble_eq_true rfl) rfl
    · have h := ip_ h c_3
      refine lv_iconst (v := 0) hx hb dX5_waits_44 (by decide) ?_
      obtain rfl := o1 h
      exact eX hx hb hr hlk hP hS dX5_waits_45 (Nat.le_of_ble_eq_true rfl) (Nat.le_of_ble_eq_true rfl) rfl
  · have h := ip_ h c_1
    obtain rfl := o1 h
    exact eT (text := "there is no such wish") hx hb hfl hlk htb hT hown hP hS (hl.1.trans hml.symm) (hts (.classLink RX5 60 "java/lang/IndexOutOfBoundsException") (List.mem_of_getElem? (i := 1) rfl)) (hts (.initialized "java/lang/IndexOutOfBoundsException") (List.mem_of_getElem? (i := 2) rfl)) (List.mem_of_getElem? (i := 8) rfl) (List.mem_of_getElem? (i := 2) rfl) (fun w h => hts w ((fun _ h => List.mem_cons_of_mem _ (List.mem_append_left _ (List.mem_append_right _ (h)))) w h)) (by decide +kernel) (by decide +kernel) (by decide +kernel) dX5_waits_14 dX5_waits_17 dX5_waits_18 dX5_waits_20 dX5_waits_23 (Nat.le_of_ble_eq_true rfl) (Nat.le_of_ble_eq_true rfl) (Nat.le_of_ble_eq_true rfl) (Nat.le_of_ble_eq_true rfl) (Nat.le_of_ble_eq_true rfl) (Nat.le_of_ble_eq_true rfl) rfl
noncomputable def fX5_foresee (G : Nat → Nat → Int32) (g : Nat → Int32) (J : Nat → Nat → Int32) (j : Nat → Int32) (p0 : Int32) (p1 : Int32) : Option (String ⊕ (Int32 × (Nat → Nat → Int32) × (Nat → Int32))) := if (fX5_within p0 1 100) = 0 then (some (.inl "java/lang/IllegalArgumentException")) else (if (fX5_within p1 0 2) = 0 then (some (.inl "java/lang/IndexOutOfBoundsException")) else (b2 (fX3_takeOver G g J j) (fun J_3 j_4 => b3 (fX3_liveDays J_3 j_4 p0) (fun r_6 J_7 j_8 => if p1 = 0 then (some (.inr (j_8 1, J_7, j_8))) else (if p1 = 1 then (Option.bind (fX1_coinsIn J_7 4) (fun r_14 => some (.inr (r_14, J_7, j_8)))) else (Option.bind (fX3_valueOfAll J_7 j_8) (fun r_12 => some (.inr (r_12, J_7, j_8)))))))))
set_option maxHeartbeats 4000000 in
set_option maxRecDepth 100000 in
theorem c_X5_foresee (l : Launch) (hfl : l.stackTraces = false) (D : va_G) (cI cJ : ClassId) (a b x : Nat → Nat) (G : Nat → Nat → Int32) (g : Nat → Int32) (J : Nat → Nat → Int32) (j : Nat → Int32) (F : Nat → Int32) (p0 : Int32) (p1 : Int32) (z : String ⊕ (Int32 × (Nat → Nat → Int32) × (Nat → Int32))) (rs : va_W) (h : fX5_foresee G g J j p0 p1 = some z) : Cx l yX5_foresee wsX5_foresee ({ frames := 6, cells := 1, slots := 6, locals := 134 } : Room) D cI cJ ([.ref (x 0), .int p0, .int p1] : List Value) (wl cI a G g ++ (wl cI b J j ++ (xr cI a b x F ++ rs))) (z.elim .inl (fun q => .inr (q.1, wl cI a G g ++ (wl cI b q.2.1 q.2.2 ++ (xr cI a b x F ++ rs))))) := by
  refine Cx.mk (cc := cX5_foresee) (maxL := 3) (ret := (some .int)) (by decide) rfl (Nat.le_of_ble_eq_true rfl) ?_
  intro p e s m below meth c A ls B hr hlk htb hT hK hN hA hP hD hl
  obtain ⟨hx, hb, hml, hown, hts⟩ := id B
  have hi_X3 : ∀ w ∈ wsX30, w ∈ wsX5_foresee := fun _ h => List.mem_cons_of_mem _ (List.mem_append_left _ (List.mem_append_left _ (List.mem_append_left _ (List.mem_append_left _ (List.mem_append_left _ (List.mem_append_left _ (List.mem_append_left _ (List.mem_append_right _ (h)))))))))
  have hi_X5 : ∀ w ∈ wsX50, w ∈ wsX5_foresee := fun _ h => List.mem_cons_of_mem _ (List.mem_append_left _ (List.mem_append_left _ (List.mem_append_left _ (List.mem_append_left _ (List.mem_append_left _ (List.mem_append_left _ (List.mem_append_left _ (List.mem_append_left _ (List.mem_append_right _ (h))))))))))
  have hS : va_S A s.heap s.heap [] := va_S.rf
  have hl : lv_has ls 3 [(0, .ref (x 0)), (1, .int p0), (2, .int p1)] := hl
  unfold fX5_foresee at h
  refine lv_iload_n hx hb dX5_foresee_0 rfl (lv_at hl 1 rfl) ?_
  refine lv_iconst (v := 1) hx hb dX5_foresee_1 (by decide) ?_
  refine lv_bipush (v := 100) hx hb dX5_foresee_2 (by decide) ?_
  refine kSi (As := [.int p0, .int 1, .int 100]) (rest := []) B hK hN hP hD hS hA (c_X5_within l D cI cJ  p0 1 100 (wl cI a G g ++ (wl cI b J j ++ (xr cI a b x F ++ rs))) _ rfl) (va_cwS 3 hts gX5_foresee_X5_within rfl rfl rfl (by decide +kernel) ⟨(Nat.le_of_ble_eq_true rfl), (Nat.le_of_ble_eq_true rfl)⟩) rfl hl.1 rfl (Nat.le_of_ble_eq_true rfl) dX5_foresee_4 ⟨(Nat.le_of_ble_eq_true rfl), (Nat.le_of_ble_eq_true rfl)⟩ rfl (fun H locs hP hD hS => ?_)
  refine lv_if_ne (tgt := 20) hx hb dX5_foresee_7 (by decide) (fun c_1 => ?_) (fun c_1 => ?_)
  · have h := in_ h c_1
    refine lv_iload_n hx hb dX5_foresee_20 rfl (lv_at hl 2 rfl) ?_
    refine lv_iconst (v := 0) hx hb dX5_foresee_21 (by decide) ?_
    refine lv_iconst (v := 2) hx hb dX5_foresee_22 (by decide) ?_
    refine kSi (As := [.int p1, .int 0, .int 2]) (rest := []) B hK hN hP hD hS hA (c_X5_within l D cI cJ  p1 0 2 (wl cI a G g ++ (wl cI b J j ++ (xr cI a b x F ++ rs))) _ rfl) (va_cwS 3 hts gX5_foresee_X5_within rfl rfl rfl (by decide +kernel) ⟨(Nat.le_of_ble_eq_true rfl), (Nat.le_of_ble_eq_true rfl)⟩) rfl hl.1 rfl (Nat.le_of_ble_eq_true rfl) dX5_foresee_23 ⟨(Nat.le_of_ble_eq_true rfl), (Nat.le_of_ble_eq_true rfl)⟩ rfl (fun H locs hP hD hS => ?_)
    refine lv_if_ne (tgt := 39) hx hb dX5_foresee_26 (by decide) (fun c_2 => ?_) (fun c_2 => ?_)
    · have h := in_ h c_2
      refine lv_aload_n hx hb dX5_foresee_39 rfl (lv_at hl 0 rfl) ?_
      refine va_get (ci := 8) (v := .ref (b 0)) (C := RX5) (T := TX5) (N := 3) hx hb hts hi_X5 hown hK hP 56 rfl rfl 1 (by decide) (hts (.fieldLink RX5 16 "WishWell" "trial" "LWishWell$Well;") (List.mem_of_getElem? (i := 5) rfl)) (fun _ h9 => h9) rfl dX5_foresee_40 ?_
      refine lv_aload_n hx hb dX5_foresee_43 rfl (lv_at hl 0 rfl) ?_
      refine va_get (ci := 8) (v := .ref (a 0)) (C := RX5) (T := TX5) (N := 3) hx hb hts hi_X5 hown hK hP 56 rfl rfl 0 (by decide) (hts (.fieldLink RX5 10 "WishWell" "well" "LWishWell$Well;") (List.mem_of_getElem? (i := 6) rfl)) (fun _ h9 => h9) rfl dX5_foresee_44 ?_
      obtain ⟨J_3, j_4, hx_5, h⟩ := b2_I h
      refine kVv (As := [.ref (a 0)]) (rest := []) B hK hN (P_perm (pm2 _ _ _) hP) (D_perm (pm2 _ _ _) hD) hS hA (c_X3_takeOver l D cI cJ a b G g J j  J_3 j_4 (xr cI a b x F ++ rs) hx_5) (cwV 1 hts gX5_foresee_X3_takeOver rfl rfl rfl (by decide +kernel) ⟨(Nat.le_of_ble_eq_true rfl), (Nat.le_of_ble_eq_true rfl)⟩) 6 0 rfl rfl rfl hl.1 rfl (Nat.le_of_ble_eq_true rfl) dX5_foresee_47 ⟨(Nat.le_of_ble_eq_true rfl), (Nat.le_of_ble_eq_true rfl)⟩ rfl (fun H locs hP hD hS => ?_)
      have hP := P_perm (pm2 _ _ _) hP
      have hD := D_perm (pm2 _ _ _) hD
      refine lv_aload_n hx hb dX5_foresee_50 rfl (lv_at hl 0 rfl) ?_
      refine va_get (ci := 8) (v := .ref (b 0)) (C := RX5) (T := TX5) (N := 3) hx hb hts hi_X5 hown hK hP 56 rfl rfl 1 (by decide) (hts (.fieldLink RX5 16 "WishWell" "trial" "LWishWell$Well;") (List.mem_of_getElem? (i := 5) rfl)) (fun _ h9 => h9) rfl dX5_foresee_51 ?_
      refine lv_iload_n hx hb dX5_foresee_54 rfl (lv_at hl 1 rfl) ?_
      obtain ⟨r_6, J_7, j_8, hx_9, h⟩ := b3_I h
      refine kVi (As := [.int p0]) (rest := []) B hK hN (P_perm (pm2 _ _ _) hP) (D_perm (pm2 _ _ _) hD) hS hA (c_X3_liveDays l D cI cJ b J_3 j_4 p0 r_6 J_7 j_8 (wl cI a G g ++ (xr cI a b x F ++ rs)) hx_9) (cwV 1 hts gX5_foresee_X3_liveDays rfl rfl rfl (by decide +kernel) ⟨(Nat.le_of_ble_eq_true rfl), (Nat.le_of_ble_eq_true rfl)⟩) 6 0 rfl rfl rfl hl.1 rfl (Nat.le_of_ble_eq_true rfl) dX5_foresee_55 ⟨(Nat.le_of_ble_eq_true rfl), (Nat.le_of_ble_eq_true rfl)⟩ rfl (fun H locs hP hD hS => ?_)
      have hP := P_perm (pm2 _ _ _) hP
      have hD := D_perm (pm2 _ _ _) hD
      refine lv_pop hx hb dX5_foresee_58 rfl ?_
      refine lv_iload_n hx hb dX5_foresee_59 rfl (lv_at hl 2 rfl) ?_
      refine lv_if_ne (tgt := 71) hx hb dX5_foresee_60 (by decide) (fun c_10 => ?_) (fun c_10 => ?_)
      · have h := in_ h c_10
        refine lv_iload_n hx hb dX5_foresee_71 rfl (lv_at hl 2 rfl) ?_
        refine lv_iconst (v := 1) hx hb dX5_foresee_72 (by decide) ?_
        refine lv_icmp_ne (tgt := 90) hx hb dX5_foresee_73 (by decide) (fun c_11 => ?_) (fun c_11 => ?_)
        · have h := in_ h c_11
          refine lv_aload_n hx hb dX5_foresee_90 rfl (lv_at hl 0 rfl) ?_
          refine va_get (ci := 8) (v := .ref (b 0)) (C := RX5) (T := TX5) (N := 3) hx hb hts hi_X5 hown hK hP 56 rfl rfl 1 (by decide) (hts (.fieldLink RX5 16 "WishWell" "trial" "LWishWell$Well;") (List.mem_of_getElem? (i := 5) rfl)) (fun _ h9 => h9) rfl dX5_foresee_91 ?_
          obtain ⟨r_12, hx_13, h⟩ := bd_I h
          refine kVi (As := []) (rest := []) B hK hN (P_perm (pm2 _ _ _) hP) (D_perm (pm2 _ _ _) hD) hS hA (c_X3_valueOfAll l D cI cJ b J_7 j_8  r_12 (wl cI a G g ++ (xr cI a b x F ++ rs)) hx_13) (cwV 0 hts gX5_foresee_X3_valueOfAll rfl rfl rfl (by decide +kernel) ⟨(Nat.le_of_ble_eq_true rfl), (Nat.le_of_ble_eq_true rfl)⟩) 6 0 rfl rfl rfl hl.1 rfl (Nat.le_of_ble_eq_true rfl) dX5_foresee_94 ⟨(Nat.le_of_ble_eq_true rfl), (Nat.le_of_ble_eq_true rfl)⟩ rfl (fun H locs hP hD hS => ?_)
          have hP := P_perm (pm2 _ _ _) hP
          have hD := D_perm (pm2 _ _ _) hD
          obtain rfl := o1 h
          exact eX hx hb hr hlk hP hS dX5_foresee_97 (Nat.le_of_ble_eq_true rfl) (Nat.le_of_ble_eq_true rfl) rfl
        · have h := ip_ h c_11
          refine lv_aload_n hx hb dX5_foresee_76 rfl (lv_at hl 0 rfl) ?_
          refine va_get (ci := 8) (v := .ref (b 0)) (C := RX5) (T := TX5) (N := 3) hx hb hts hi_X5 hown hK hP 56 rfl rfl 1 (by decide) (hts (.fieldLink RX5 16 "WishWell" "trial" "LWishWell$Well;") (List.mem_of_getElem? (i := 5) rfl)) (fun _ h9 => h9) rfl dX5_foresee_77 ?_
          refine va_get (ci := 6) (v := .ref (b 3)) (C := RX3) (T := TX3) (N := 9) hx hb hts hi_X3 hown hK hP 28 rfl rfl 2 (by decide) (hts (.fieldLink RX5 133 "WishWell$Well" "layers" "LWishWell$Layers;") (List.mem_of_getElem? (i := 8) rfl)) (fun _ h9 => h9) rfl dX5_foresee_80 ?_
          refine lv_iconst (v := 4) hx hb dX5_foresee_83 (by decide) ?_
          obtain ⟨r_14, hx_15, h⟩ := bd_I h
          refine kVi (As := [.int 4]) (rest := []) B hK hN (P_perm (pm2 _ _ _) hP) (D_perm (pm2 _ _ _) hD) hS hA (c_X1_coinsIn l D cI cJ b J_7 j_8 4 r_14 (wl cI a G g ++ (xr cI a b x F ++ rs)) hx_15) (cwV 1 hts gX5_foresee_X1_coinsIn rfl rfl rfl (by decide +kernel) ⟨(Nat.le_of_ble_eq_true rfl), (Nat.le_of_ble_eq_true rfl)⟩) 4 3 rfl rfl rfl hl.1 rfl (Nat.le_of_ble_eq_true rfl) dX5_foresee_84 ⟨(Nat.le_of_ble_eq_true rfl), (Nat.le_of_ble_eq_true rfl)⟩ rfl (fun H locs hP hD hS => ?_)
          have hP := P_perm (pm2 _ _ _) hP
          have hD := D_perm (pm2 _ _ _) hD
          refine lv_goto (tgt := 97) hx hb dX5_foresee_87 (by decide) ?_
          obtain rfl := o1 h
          exact eX hx hb hr hlk hP hS dX5_foresee_97 (Nat.le_of_ble_eq_true rfl) (Nat.le_of_ble_eq_true rfl) rfl
      · have h := ip_ h c_10
        refine lv_aload_n hx hb dX5_foresee_63 rfl (lv_at hl 0 rfl) ?_
        refine va_get (ci := 8) (v := .ref (b 0)) (C := RX5) (T := TX5) (N := 3) hx hb hts hi_X5 hown hK hP 56 rfl rfl 1 (by decide) (hts (.fieldLink RX5 16 "WishWell" "trial" "LWishWell$Well;") (List.mem_of_getElem? (i := 5) rfl)) (fun _ h9 => h9) rfl dX5_foresee_64 ?_
        refine va_get (ci := 6) (v := .int (j_8 1)) (C := RX3) (T := TX3) (N := 9) hx hb hts hi_X3 hown hK hP 28 rfl rfl 5 (by decide) (hts (.fieldLink RX5 165 "WishWell$Well" "favour" "I") (List.mem_of_getElem? (i := 7) rfl)) (fun _ h9 => h9) rfl dX5_foresee_67 ?_
        obtain rfl := o1 h
        exact eX hx hb hr hlk hP hS dX5_foresee_70 (Nat.le_of_ble_eq_true rfl) (Nat.le_of_ble_eq_true rfl) rfl
    · have h := ip_ h c_2
      obtain rfl := o1 h
      exact eT (text := "what is not 0 to 2") hx hb hfl hlk htb hT hown hP hS (hl.1.trans hml.symm) (hts (.classLink RX5 60 "java/lang/IndexOutOfBoundsException") (List.mem_of_getElem? (i := 3) rfl)) (hts (.initialized "java/lang/IndexOutOfBoundsException") (List.mem_of_getElem? (i := 4) rfl)) (List.mem_of_getElem? (i := 15) rfl) (List.mem_of_getElem? (i := 2) rfl) (fun w h => hts w ((fun _ h => List.mem_cons_of_mem _ (List.mem_append_left _ (List.mem_append_right _ (h)))) w h)) (by decide +kernel) (by decide +kernel) (by decide +kernel) dX5_foresee_29 dX5_foresee_32 dX5_foresee_33 dX5_foresee_35 dX5_foresee_38 (Nat.le_of_ble_eq_true rfl) (Nat.le_of_ble_eq_true rfl) (Nat.le_of_ble_eq_true rfl) (Nat.le_of_ble_eq_true rfl) (Nat.le_of_ble_eq_true rfl) (Nat.le_of_ble_eq_true rfl) rfl
  · have h := ip_ h c_1
    obtain rfl := o1 h
    exact eT (text := "days is not 1 to 100") hx hb hfl hlk htb hT hown hP hS (hl.1.trans hml.symm) (hts (.classLink RX5 32 "java/lang/IllegalArgumentException") (List.mem_of_getElem? (i := 1) rfl)) (hts (.initialized "java/lang/IllegalArgumentException") (List.mem_of_getElem? (i := 2) rfl)) (List.mem_of_getElem? (i := 14) rfl) (List.mem_of_getElem? (i := 0) rfl) (fun w h => hts w ((fun _ h => List.mem_cons_of_mem _ (List.mem_append_left _ (List.mem_append_left _ (List.mem_append_right _ (h))))) w h)) (by decide +kernel) (by decide +kernel) (by decide +kernel) dX5_foresee_10 dX5_foresee_13 dX5_foresee_14 dX5_foresee_16 dX5_foresee_19 (Nat.le_of_ble_eq_true rfl) (Nat.le_of_ble_eq_true rfl) (Nat.le_of_ble_eq_true rfl) (Nat.le_of_ble_eq_true rfl) (Nat.le_of_ble_eq_true rfl) (Nat.le_of_ble_eq_true rfl) rfl
noncomputable def fX5_change_B23 (p0 : Int32) (x2_2 : Int32) (F_2 : Nat → Int32) : Option ((Int32 × (Nat → Int32)) ⊕ (Int32 × (Nat → Int32))) := if p0 < x2_2 then (some (.inr (x2_2, F_2))) else (lt_ (rPut 301 F_2 x2_2 (-1)) (fun F_4 => some (.inl (x2_2 + 1, F_4))))
noncomputable def fX5_change_B54 (G : Nat → Nat → Int32) (g : Nat → Int32) (p0 : Int32) (x2_6 : Int32) (F_6 : Nat → Int32) : Option ((Int32 × (Nat → Int32)) ⊕ (Int32 × (Nat → Int32))) := if (g 5) ≤ x2_6 then (some (.inr (x2_6, F_6))) else (Option.bind (fX5_payWithLand G F_6 x2_6 p0) (fun F_8 => some (.inl (x2_6 + 1, F_8))))
noncomputable def fX5_change (G : Nat → Nat → Int32) (g : Nat → Int32) (F : Nat → Int32) (p0 : Int32) : Option (String ⊕ (Int32 × (Nat → Int32))) := if (fX5_within p0 1 300) = 0 then (some (.inl "java/lang/IllegalArgumentException")) else (b2 (lp (fun s => fX5_change_B23 p0 s.1 s.2) 301 (1, F)) (fun z2_2 Fz_2 => lt_ (rPut 301 Fz_2 0 0) (fun F_5 => b2 (lp (fun s => fX5_change_B54 G g p0 s.1 s.2) 7 (0, F_5)) (fun z2_6 Fz_6 => some (.inr (rAt 301 Fz_6 p0, Fz_6))))))
set_option maxHeartbeats 4000000 in
set_option maxRecDepth 100000 in
theorem c_X5_change (l : Launch) (hfl : l.stackTraces = false) (D : va_G) (cI cJ : ClassId) (a b x : Nat → Nat) (G : Nat → Nat → Int32) (g : Nat → Int32) (J : Nat → Nat → Int32) (j : Nat → Int32) (F : Nat → Int32) (p0 : Int32) (z : String ⊕ (Int32 × (Nat → Int32))) (rs : va_W) (h : fX5_change G g F p0 = some z) : Cx l yX5_change wsX5_change ({ frames := 6, cells := 1, slots := 6, locals := 93 } : Room) D cI cJ ([.ref (x 0), .int p0] : List Value) (wl cI a G g ++ (wl cI b J j ++ (xr cI a b x F ++ rs))) (z.elim .inl (fun q => .inr (q.1, wl cI a G g ++ (wl cI b J j ++ (xr cI a b x q.2 ++ rs))))) := by
  refine Cx.mk (cc := cX5_change) (maxL := 3) (ret := (some .int)) (by decide) rfl (Nat.le_of_ble_eq_true rfl) ?_
  intro p e s m below meth c A ls B hr hlk htb hT hK hN hA hP hD hl
  obtain ⟨hx, hb, hml, hown, hts⟩ := id B
  have hi_X0 : ∀ w ∈ wsX00, w ∈ wsX5_change := fun _ h => List.mem_cons_of_mem _ (List.mem_append_left _ (List.mem_append_left _ (List.mem_append_left _ (List.mem_append_left _ (List.mem_append_right _ (h))))))
  have hi_X3 : ∀ w ∈ wsX30, w ∈ wsX5_change := fun _ h => List.mem_cons_of_mem _ (List.mem_append_left _ (List.mem_append_left _ (List.mem_append_left _ (List.mem_append_left _ (List.mem_append_left _ (List.mem_append_right _ (h)))))))
  have hi_X5 : ∀ w ∈ wsX50, w ∈ wsX5_change := fun _ h => List.mem_cons_of_mem _ (List.mem_append_left _ (List.mem_append_left _ (List.mem_append_left _ (List.mem_append_left _ (List.mem_append_left _ (List.mem_append_left _ (List.mem_append_right _ (h))))))))
  have hS : va_S A s.heap s.heap [] := va_S.rf
  have hl : lv_has ls 3 [(0, .ref (x 0)), (1, .int p0)] := hl
  unfold fX5_change at h
  refine lv_iload_n hx hb dX5_change_0 rfl (lv_at hl 1 rfl) ?_
  refine lv_iconst (v := 1) hx hb dX5_change_1 (by decide) ?_
  refine lv_sipush (v := 300) hx hb dX5_change_2 (by decide) ?_
  refine kSi (As := [.int p0, .int 1, .int 300]) (rest := []) B hK hN hP hD hS hA (c_X5_within l D cI cJ  p0 1 300 (wl cI a G g ++ (wl cI b J j ++ (xr cI a b x F ++ rs))) _ rfl) (va_cwS 3 hts gX5_change_X5_within rfl rfl rfl (by decide +kernel) ⟨(Nat.le_of_ble_eq_true rfl), (Nat.le_of_ble_eq_true rfl)⟩) rfl hl.1 rfl (Nat.le_of_ble_eq_true rfl) dX5_change_5 ⟨(Nat.le_of_ble_eq_true rfl), (Nat.le_of_ble_eq_true rfl)⟩ rfl (fun H locs hP hD hS => ?_)
  refine lv_if_ne (tgt := 21) hx hb dX5_change_8 (by decide) (fun c_1 => ?_) (fun c_1 => ?_)
  · have h := in_ h c_1
    refine lv_iconst (v := 1) hx hb dX5_change_21 (by decide) ?_
    refine lv_istore_n (lv' := [(2, .int 1), (0, .ref (x 0)), (1, .int p0)]) hx hb dX5_change_22 rfl hl (by decide) rfl (fun ls hl => ?_)
    have L23_2 : ∀ (n : Nat) (x2_2 : Int32) (F_2 : Nat → Int32) (z2_2 : Int32) (Fz_2 : Nat → Int32) (_ : lp (fun s => fX5_change_B23 p0 s.1 s.2) n (x2_2, F_2) = some (z2_2, Fz_2)) (_ : ∀ (H : Heap) (locs : List Loc) (ls : Array Slot), va_P D vwCl (wl cI a G g ++ (wl cI b J j ++ (xr cI a b x Fz_2 ++ rs))) H → va_D A (wl cI a G g ++ (wl cI b J j ++ (xr cI a b x Fz_2 ++ rs))) → va_S A s.heap H locs → lv_has ls 3 [(0, .ref (x 0)), (1, .int p0), (2, .int z2_2)] → W p l e (headSpec wsX5_change ({ frames := 6, cells := 1, slots := 6, locals := 93 } : Room)).room s m ([.ref (x 0), .int p0] : List Value).toArray below meth c H locs (0) (0) (QX below D (wl cI a G g ++ (wl cI b J j ++ (xr cI a b x F ++ rs))) (z.elim .inl (fun q => .inr (q.1, wl cI a G g ++ (wl cI b J j ++ (xr cI a b x q.2 ++ rs))))) ([.ref (x 0), .int p0] : List Value).toArray s 1 6 A) (F0 m 43 ls [])) (H : Heap) (locs : List Loc) (ls : Array Slot), va_P D vwCl (wl cI a G g ++ (wl cI b J j ++ (xr cI a b x F_2 ++ rs))) H → va_D A (wl cI a G g ++ (wl cI b J j ++ (xr cI a b x F_2 ++ rs))) → va_S A s.heap H locs → lv_has ls 3 [(0, .ref (x 0)), (1, .int p0), (2, .int x2_2)] → W p l e (headSpec wsX5_change ({ frames := 6, cells := 1, slots := 6, locals := 93 } : Room)).room s m ([.ref (x 0), .int p0] : List Value).toArray below meth c H locs (0) (0) (QX below D (wl cI a G g ++ (wl cI b J j ++ (xr cI a b x F ++ rs))) (z.elim .inl (fun q => .inr (q.1, wl cI a G g ++ (wl cI b J j ++ (xr cI a b x q.2 ++ rs))))) ([.ref (x 0), .int p0] : List Value).toArray s 1 6 A) (F0 m 23 ls []) := by
      intro n
      induction n with
      | zero => intro x2_2 F_2 z2_2 Fz_2 h; exact (lp_0 h).elim
      | succ n ih =>
        intro x2_2 F_2 z2_2 Fz_2 h kk H locs ls hP hD hS hl
        obtain ⟨z, h, hz⟩ := lp_walk h
        have h : fX5_change_B23 p0 x2_2 F_2 = some z := h
        unfold fX5_change_B23 at h
        refine lv_iload_n hx hb dX5_change_23 rfl (lv_at hl 2 rfl) ?_
        refine lv_iload_n hx hb dX5_change_24 rfl (lv_at hl 1 rfl) ?_
        refine lv_icmp_gt (tgt := 43) hx hb dX5_change_25 (by decide) (fun c_3 => ?_) (fun c_3 => ?_)
        · have h := ip_ h c_3
          cases lz_e h hz
          exact kk _ _ _ hP hD hS (lv_sub hl [0, 1, 2] rfl)
        · have h := in_ h c_3
          refine lv_aload_n hx hb dX5_change_28 rfl (lv_at hl 0 rfl) ?_
          refine va_get (ci := 8) (v := .ref (x 1)) (C := RX5) (T := TX5) (N := 3) hx hb hts hi_X5 hown hK hP 56 rfl rfl 2 (by decide) (hts (.fieldLink RX5 24 "WishWell" "fewest" "LWishWell$Row;") (List.mem_of_getElem? (i := 3) rfl)) (fun _ h9 => h9) rfl dX5_change_29 ?_
          refine lv_iload_n hx hb dX5_change_32 rfl (lv_at hl 2 rfl) ?_
          refine lv_iconst (v := (-1)) hx hb dX5_change_33 (by decide) ?_
          refine kVv (As := [.int x2_2, .int (-1)]) (rest := []) B hK hN hP hD hS hA (c_X2_put l D cI cJ _ (wl cI a G g ++ (wl cI b J j ++ (xr cI a b x (rPut 301 F_2 x2_2 (-1)) ++ rs))) _ _ 301 F_2 57 58 rfl rfl (by decide) x2_2 (-1) rfl rfl) (cwV 2 hts gX5_change_X2_put rfl rfl rfl (by decide +kernel) ⟨(Nat.le_of_ble_eq_true rfl), (Nat.le_of_ble_eq_true rfl)⟩) 5 57 rfl rfl rfl hl.1 rfl (Nat.le_of_ble_eq_true rfl) dX5_change_34 ⟨(Nat.le_of_ble_eq_true rfl), (Nat.le_of_ble_eq_true rfl)⟩ rfl (fun H locs hP hD hS => ?_)
          obtain ⟨F_4, eF_4, h⟩ := lt_I h
          have hP : va_P D vwCl (wl cI a G g ++ (wl cI b J j ++ (xr cI a b x F_4 ++ rs))) H := by rw [eF_4]; exact hP
          have hD : va_D A (wl cI a G g ++ (wl cI b J j ++ (xr cI a b x F_4 ++ rs))) := by rw [eF_4]; exact hD
          refine lv_iinc (v := x2_2 + 1) (lv' := [(2, .int (x2_2 + 1)), (0, .ref (x 0)), (1, .int p0)]) hx hb dX5_change_37 hl (k := 2) rfl rfl (by decide) rfl (fun ls hl => ?_)
          refine lv_goto (tgt := 23) hx hb dX5_change_40 (by decide) ?_
          exact ih (x2_2 + 1) F_4 _ _ (lz_c h hz) kk _ _ _ hP hD hS (lv_sub hl [1, 2, 0] rfl)
    obtain ⟨z2_2, Fz_2, hl_2, h⟩ := b2_I h
    refine L23_2 301 1 F z2_2 Fz_2 hl_2 (fun H locs ls hP hD hS hl => ?_) _ _ _ hP hD hS (lv_sub hl [1, 2, 0] rfl)
    refine lv_aload_n hx hb dX5_change_43 rfl (lv_at hl 0 rfl) ?_
    refine va_get (ci := 8) (v := .ref (x 1)) (C := RX5) (T := TX5) (N := 3) hx hb hts hi_X5 hown hK hP 56 rfl rfl 2 (by decide) (hts (.fieldLink RX5 24 "WishWell" "fewest" "LWishWell$Row;") (List.mem_of_getElem? (i := 3) rfl)) (fun _ h9 => h9) rfl dX5_change_44 ?_
    refine lv_iconst (v := 0) hx hb dX5_change_47 (by decide) ?_
    refine lv_iconst (v := 0) hx hb dX5_change_48 (by decide) ?_
    refine kVv (As := [.int 0, .int 0]) (rest := []) B hK hN hP hD hS hA (c_X2_put l D cI cJ _ (wl cI a G g ++ (wl cI b J j ++ (xr cI a b x (rPut 301 Fz_2 0 0) ++ rs))) _ _ 301 Fz_2 57 58 rfl rfl (by decide) 0 0 rfl rfl) (cwV 2 hts gX5_change_X2_put rfl rfl rfl (by decide +kernel) ⟨(Nat.le_of_ble_eq_true rfl), (Nat.le_of_ble_eq_true rfl)⟩) 5 57 rfl rfl rfl hl.1 rfl (Nat.le_of_ble_eq_true rfl) dX5_change_49 ⟨(Nat.le_of_ble_eq_true rfl), (Nat.le_of_ble_eq_true rfl)⟩ rfl (fun H locs hP hD hS => ?_)
    obtain ⟨F_5, eF_5, h⟩ := lt_I h
    have hP : va_P D vwCl (wl cI a G g ++ (wl cI b J j ++ (xr cI a b x F_5 ++ rs))) H := by rw [eF_5]; exact hP
    have hD : va_D A (wl cI a G g ++ (wl cI b J j ++ (xr cI a b x F_5 ++ rs))) := by rw [eF_5]; exact hD
    refine lv_iconst (v := 0) hx hb dX5_change_52 (by decide) ?_
    refine lv_istore_n (lv' := [(2, .int 0), (0, .ref (x 0)), (1, .int p0)]) hx hb dX5_change_53 rfl hl (by decide) rfl (fun ls hl => ?_)
    have L54_6 : ∀ (n : Nat) (x2_6 : Int32) (F_6 : Nat → Int32) (z2_6 : Int32) (Fz_6 : Nat → Int32) (_ : lp (fun s => fX5_change_B54 G g p0 s.1 s.2) n (x2_6, F_6) = some (z2_6, Fz_6)) (_ : ∀ (H : Heap) (locs : List Loc) (ls : Array Slot), va_P D vwCl (wl cI a G g ++ (wl cI b J j ++ (xr cI a b x Fz_6 ++ rs))) H → va_D A (wl cI a G g ++ (wl cI b J j ++ (xr cI a b x Fz_6 ++ rs))) → va_S A s.heap H locs → lv_has ls 3 [(0, .ref (x 0)), (1, .int p0), (2, .int z2_6)] → W p l e (headSpec wsX5_change ({ frames := 6, cells := 1, slots := 6, locals := 93 } : Room)).room s m ([.ref (x 0), .int p0] : List Value).toArray below meth c H locs (0) (0) (QX below D (wl cI a G g ++ (wl cI b J j ++ (xr cI a b x F ++ rs))) (z.elim .inl (fun q => .inr (q.1, wl cI a G g ++ (wl cI b J j ++ (xr cI a b x q.2 ++ rs))))) ([.ref (x 0), .int p0] : List Value).toArray s 1 6 A) (F0 m 80 ls [])) (H : Heap) (locs : List Loc) (ls : Array Slot), va_P D vwCl (wl cI a G g ++ (wl cI b J j ++ (xr cI a b x F_6 ++ rs))) H → va_D A (wl cI a G g ++ (wl cI b J j ++ (xr cI a b x F_6 ++ rs))) → va_S A s.heap H locs → lv_has ls 3 [(0, .ref (x 0)), (1, .int p0), (2, .int x2_6)] → W p l e (headSpec wsX5_change ({ frames := 6, cells := 1, slots := 6, locals := 93 } : Room)).room s m ([.ref (x 0), .int p0] : List Value).toArray below meth c H locs (0) (0) (QX below D (wl cI a G g ++ (wl cI b J j ++ (xr cI a b x F ++ rs))) (z.elim .inl (fun q => .inr (q.1, wl cI a G g ++ (wl cI b J j ++ (xr cI a b x q.2 ++ rs))))) ([.ref (x 0), .int p0] : List Value).toArray s 1 6 A) (F0 m 54 ls []) := by
      intro n
      induction n with
      | zero => intro x2_6 F_6 z2_6 Fz_6 h; exact (lp_0 h).elim
      | succ n ih =>
        intro x2_6 F_6 z2_6 Fz_6 h kk H locs ls hP hD hS hl
        obtain ⟨z, h, hz⟩ := lp_walk h
        have h : fX5_change_B54 G g p0 x2_6 F_6 = some z := h
        unfold fX5_change_B54 at h
        refine lv_iload_n hx hb dX5_change_54 rfl (lv_at hl 2 rfl) ?_
        refine lv_aload_n hx hb dX5_change_55 rfl (lv_at hl 0 rfl) ?_
        refine va_get (ci := 8) (v := .ref (a 0)) (C := RX5) (T := TX5) (N := 3) hx hb hts hi_X5 hown hK hP 56 rfl rfl 0 (by decide) (hts (.fieldLink RX5 10 "WishWell" "well" "LWishWell$Well;") (List.mem_of_getElem? (i := 4) rfl)) (fun _ h9 => h9) rfl dX5_change_56 ?_
        refine va_get (ci := 6) (v := .ref (a 1)) (C := RX3) (T := TX3) (N := 9) hx hb hts hi_X3 hown hK hP 0 rfl rfl 0 (by decide) (hts (.fieldLink RX5 41 "WishWell$Well" "lands" "LWishWell$Lands;") (List.mem_of_getElem? (i := 5) rfl)) (fun _ h9 => h9) rfl dX5_change_59 ?_
        refine va_get (ci := 3) (v := .int (g 5)) (C := RX0) (T := TX0) (N := 6) hx hb hts hi_X0 hown hK hP 1 rfl rfl 5 (by decide) (hts (.fieldLink RX5 45 "WishWell$Lands" "size" "I") (List.mem_of_getElem? (i := 6) rfl)) (fun _ h9 => h9) rfl dX5_change_62 ?_
        refine lv_icmp_ge (tgt := 80) hx hb dX5_change_65 (by decide) (fun c_7 => ?_) (fun c_7 => ?_)
        · have h := ip_ h c_7
          cases lz_e h hz
          exact kk _ _ _ hP hD hS (lv_sub hl [0, 1, 2] rfl)
        · have h := in_ h c_7
          refine lv_aload_n hx hb dX5_change_68 rfl (lv_at hl 0 rfl) ?_
          refine lv_iload_n hx hb dX5_change_69 rfl (lv_at hl 2 rfl) ?_
          refine lv_iload_n hx hb dX5_change_70 rfl (lv_at hl 1 rfl) ?_
          obtain ⟨F_8, hx_9, h⟩ := bd_I h
          refine kVv (As := [.int x2_6, .int p0]) (rest := []) B hK hN hP hD hS hA (c_X5_payWithLand l D cI cJ a b x G g J j F_6 x2_6 p0 F_8 rs hx_9) (cwV 2 hts gX5_change_X5_payWithLand rfl rfl rfl (by decide +kernel) ⟨(Nat.le_of_ble_eq_true rfl), (Nat.le_of_ble_eq_true rfl)⟩) 8 56 rfl rfl rfl hl.1 rfl (Nat.le_of_ble_eq_true rfl) dX5_change_71 ⟨(Nat.le_of_ble_eq_true rfl), (Nat.le_of_ble_eq_true rfl)⟩ rfl (fun H locs hP hD hS => ?_)
          refine lv_iinc (v := x2_6 + 1) (lv' := [(2, .int (x2_6 + 1)), (0, .ref (x 0)), (1, .int p0)]) hx hb dX5_change_74 hl (k := 2) rfl rfl (by decide) rfl (fun ls hl => ?_)
          refine lv_goto (tgt := 54) hx hb dX5_change_77 (by decide) ?_
          exact ih (x2_6 + 1) F_8 _ _ (lz_c h hz) kk _ _ _ hP hD hS (lv_sub hl [1, 2, 0] rfl)
    obtain ⟨z2_6, Fz_6, hl_6, h⟩ := b2_I h
    refine L54_6 7 0 F_5 z2_6 Fz_6 hl_6 (fun H locs ls hP hD hS hl => ?_) _ _ _ hP hD hS (lv_sub hl [1, 2, 0] rfl)
    refine lv_aload_n hx hb dX5_change_80 rfl (lv_at hl 0 rfl) ?_
    refine va_get (ci := 8) (v := .ref (x 1)) (C := RX5) (T := TX5) (N := 3) hx hb hts hi_X5 hown hK hP 56 rfl rfl 2 (by decide) (hts (.fieldLink RX5 24 "WishWell" "fewest" "LWishWell$Row;") (List.mem_of_getElem? (i := 3) rfl)) (fun _ h9 => h9) rfl dX5_change_81 ?_
    refine lv_iload_n hx hb dX5_change_84 rfl (lv_at hl 1 rfl) ?_
    refine kVi (As := [.int p0]) (rest := []) B hK hN hP hD hS hA (c_X2_at l D cI cJ _ _ _ 301 Fz_6 57 58 rfl rfl (by decide) p0) (cwV 1 hts gX5_change_X2_at rfl rfl rfl (by decide +kernel) ⟨(Nat.le_of_ble_eq_true rfl), (Nat.le_of_ble_eq_true rfl)⟩) 5 57 rfl rfl rfl hl.1 rfl (Nat.le_of_ble_eq_true rfl) dX5_change_85 ⟨(Nat.le_of_ble_eq_true rfl), (Nat.le_of_ble_eq_true rfl)⟩ rfl (fun H locs hP hD hS => ?_)
    obtain rfl := o1 h
    exact eX hx hb hr hlk hP hS dX5_change_88 (Nat.le_of_ble_eq_true rfl) (Nat.le_of_ble_eq_true rfl) rfl
  · have h := ip_ h c_1
    obtain rfl := o1 h
    exact eT (text := "pence is not 1 to 300") hx hb hfl hlk htb hT hown hP hS (hl.1.trans hml.symm) (hts (.classLink RX5 32 "java/lang/IllegalArgumentException") (List.mem_of_getElem? (i := 1) rfl)) (hts (.initialized "java/lang/IllegalArgumentException") (List.mem_of_getElem? (i := 2) rfl)) (List.mem_of_getElem? (i := 16) rfl) (List.mem_of_getElem? (i := 0) rfl) (fun w h => hts w ((fun _ h => List.mem_cons_of_mem _ (List.mem_append_left _ (List.mem_append_right _ (h)))) w h)) (by decide +kernel) (by decide +kernel) (by decide +kernel) dX5_change_11 dX5_change_14 dX5_change_15 dX5_change_17 dX5_change_20 (Nat.le_of_ble_eq_true rfl) (Nat.le_of_ble_eq_true rfl) (Nat.le_of_ble_eq_true rfl) (Nat.le_of_ble_eq_true rfl) (Nat.le_of_ble_eq_true rfl) (Nat.le_of_ble_eq_true rfl) rfl
noncomputable def fX5_pass (G : Nat → Nat → Int32) (g : Nat → Int32) (p0 : Int32) : Option (String ⊕ (Int32 × (Nat → Nat → Int32) × (Nat → Int32))) := if (fX5_within p0 1 100) = 0 then (some (.inl "java/lang/IllegalArgumentException")) else (b3 (fX3_liveDays G g p0) (fun r_2 G_3 g_4 => some (.inr (r_2, G_3, g_4))))
set_option maxHeartbeats 4000000 in
set_option maxRecDepth 100000 in
theorem c_X5_pass (l : Launch) (hfl : l.stackTraces = false) (D : va_G) (cI cJ : ClassId) (a b x : Nat → Nat) (G : Nat → Nat → Int32) (g : Nat → Int32) (J : Nat → Nat → Int32) (j : Nat → Int32) (F : Nat → Int32) (p0 : Int32) (z : String ⊕ (Int32 × (Nat → Nat → Int32) × (Nat → Int32))) (rs : va_W) (h : fX5_pass G g p0 = some z) : Cx l yX5_pass wsX5_pass ({ frames := 6, cells := 1, slots := 6, locals := 134 } : Room) D cI cJ ([.ref (x 0), .int p0] : List Value) (wl cI a G g ++ (wl cI b J j ++ (xr cI a b x F ++ rs))) (z.elim .inl (fun q => .inr (q.1, wl cI a q.2.1 q.2.2 ++ (wl cI b J j ++ (xr cI a b x F ++ rs))))) := by
  refine Cx.mk (cc := cX5_pass) (maxL := 2) (ret := (some .int)) (by decide) rfl (Nat.le_of_ble_eq_true rfl) ?_
  intro p e s m below meth c A ls B hr hlk htb hT hK hN hA hP hD hl
  obtain ⟨hx, hb, hml, hown, hts⟩ := id B
  have hi_X5 : ∀ w ∈ wsX50, w ∈ wsX5_pass := fun _ h => List.mem_cons_of_mem _ (List.mem_append_left _ (List.mem_append_left _ (List.mem_append_left _ (List.mem_append_left _ (List.mem_append_left _ (List.mem_append_left _ (List.mem_append_left _ (List.mem_append_right _ (h)))))))))
  have hS : va_S A s.heap s.heap [] := va_S.rf
  have hl : lv_has ls 2 [(0, .ref (x 0)), (1, .int p0)] := hl
  unfold fX5_pass at h
  refine lv_iload_n hx hb dX5_pass_0 rfl (lv_at hl 1 rfl) ?_
  refine lv_iconst (v := 1) hx hb dX5_pass_1 (by decide) ?_
  refine lv_bipush (v := 100) hx hb dX5_pass_2 (by decide) ?_
  refine kSi (As := [.int p0, .int 1, .int 100]) (rest := []) B hK hN hP hD hS hA (c_X5_within l D cI cJ  p0 1 100 (wl cI a G g ++ (wl cI b J j ++ (xr cI a b x F ++ rs))) _ rfl) (va_cwS 3 hts gX5_pass_X5_within rfl rfl rfl (by decide +kernel) ⟨(Nat.le_of_ble_eq_true rfl), (Nat.le_of_ble_eq_true rfl)⟩) rfl hl.1 rfl (Nat.le_of_ble_eq_true rfl) dX5_pass_4 ⟨(Nat.le_of_ble_eq_true rfl), (Nat.le_of_ble_eq_true rfl)⟩ rfl (fun H locs hP hD hS => ?_)
  refine lv_if_ne (tgt := 20) hx hb dX5_pass_7 (by decide) (fun c_1 => ?_) (fun c_1 => ?_)
  · have h := in_ h c_1
    refine lv_aload_n hx hb dX5_pass_20 rfl (lv_at hl 0 rfl) ?_
    refine va_get (ci := 8) (v := .ref (a 0)) (C := RX5) (T := TX5) (N := 3) hx hb hts hi_X5 hown hK hP 56 rfl rfl 0 (by decide) (hts (.fieldLink RX5 10 "WishWell" "well" "LWishWell$Well;") (List.mem_of_getElem? (i := 3) rfl)) (fun _ h9 => h9) rfl dX5_pass_21 ?_
    refine lv_iload_n hx hb dX5_pass_24 rfl (lv_at hl 1 rfl) ?_
    obtain ⟨r_2, G_3, g_4, hx_5, h⟩ := b3_I h
    refine kVi (As := [.int p0]) (rest := []) B hK hN hP hD hS hA (c_X3_liveDays l D cI cJ a G g p0 r_2 G_3 g_4 (wl cI b J j ++ (xr cI a b x F ++ rs)) hx_5) (cwV 1 hts gX5_pass_X3_liveDays rfl rfl rfl (by decide +kernel) ⟨(Nat.le_of_ble_eq_true rfl), (Nat.le_of_ble_eq_true rfl)⟩) 6 0 rfl rfl rfl hl.1 rfl (Nat.le_of_ble_eq_true rfl) dX5_pass_25 ⟨(Nat.le_of_ble_eq_true rfl), (Nat.le_of_ble_eq_true rfl)⟩ rfl (fun H locs hP hD hS => ?_)
    obtain rfl := o1 h
    exact eX hx hb hr hlk hP hS dX5_pass_28 (Nat.le_of_ble_eq_true rfl) (Nat.le_of_ble_eq_true rfl) rfl
  · have h := ip_ h c_1
    obtain rfl := o1 h
    exact eT (text := "days is not 1 to 100") hx hb hfl hlk htb hT hown hP hS (hl.1.trans hml.symm) (hts (.classLink RX5 32 "java/lang/IllegalArgumentException") (List.mem_of_getElem? (i := 1) rfl)) (hts (.initialized "java/lang/IllegalArgumentException") (List.mem_of_getElem? (i := 2) rfl)) (List.mem_of_getElem? (i := 14) rfl) (List.mem_of_getElem? (i := 0) rfl) (fun w h => hts w ((fun _ h => List.mem_cons_of_mem _ (List.mem_append_left _ (List.mem_append_right _ (h)))) w h)) (by decide +kernel) (by decide +kernel) (by decide +kernel) dX5_pass_10 dX5_pass_13 dX5_pass_14 dX5_pass_16 dX5_pass_19 (Nat.le_of_ble_eq_true rfl) (Nat.le_of_ble_eq_true rfl) (Nat.le_of_ble_eq_true rfl) (Nat.le_of_ble_eq_true rfl) (Nat.le_of_ble_eq_true rfl) (Nat.le_of_ble_eq_true rfl) rfl
